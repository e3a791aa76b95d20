import java.util.Arrays;

/** A machine of operators with a pile of operands, whose errors have names and records. */
public final class ErrorNames {
    public static final int NONE = -1;

    private static final int NUMBER = 0;
    private static final int TRUTH = 1;
    private static final int NAME = 2;
    private static final int MARK = 3;
    private static final int PROCEDURE = 4;
    private static final int OPERATOR = 5;

    private static final int MOST_VALUES = 60;
    private static final int MOST_NAMES = 40;
    private static final int MOST_PROCEDURES = 20;
    private static final int MOST_TOKENS = 24;
    private static final int MOST_FRAMES = 30;
    private static final int MOST_OPERATORS = 28;
    private static final int MOST_STEPS = 5000;

    private static final int FINE = 0;
    private static final int TOO_FEW = 1;
    private static final int TOO_MANY = 2;
    private static final int WRONG_KIND = 3;
    private static final int OUT_OF_RANGE = 4;
    private static final int NO_VALUE = 5;
    private static final int BY_ZERO = 6;
    private static final int NO_MARK = 7;
    private static final int TOO_MANY_FRAMES = 8;
    private static final int NO_LOOP = 9;
    private static final int TIME_OVER = 10;
    private static final int INTERRUPTED = 11;
    private static final int BY_STOP = 99;

    private static final int FOR_VALUE = -1;
    private static final int FOR_TURN = -2;
    private static final int FOR_STOPPED = -3;

    private static final int ADD = 0;
    private static final int SUBTRACT = 1;
    private static final int MULTIPLY = 2;
    private static final int DIVIDE = 3;
    private static final int SAME = 4;
    private static final int LESS = 5;
    private static final int NOT = 6;
    private static final int POP = 7;
    private static final int DOUBLE = 8;
    private static final int SWAP = 9;
    private static final int PICK = 10;
    private static final int COUNT = 11;
    private static final int COUNT_TO_MARK = 12;
    private static final int CLEAR_TO_MARK = 13;
    private static final int DEFINE = 14;
    private static final int LOOK_UP = 15;
    private static final int EXECUTE = 16;
    private static final int IF = 17;
    private static final int IF_ELSE = 18;
    private static final int REPEAT = 19;
    private static final int COUNT_THROUGH = 20;
    private static final int ENDLESSLY = 21;
    private static final int EXIT = 22;
    private static final int STOP = 23;
    private static final int GUARD = 24;
    private static final int HANDLE = 25;
    private static final int RAISE = 26;
    private static final int TELL = 27;

    private static final int ANY = -2;
    private static final int NO = -3;
    private static final int MOST_TAKEN = 4;

    /** The kinds that each operator takes, a row each, the topmost value first. */
    private static final int[] TAKES = {
        NUMBER, NUMBER, NO, NO,
        NUMBER, NUMBER, NO, NO,
        NUMBER, NUMBER, NO, NO,
        NUMBER, NUMBER, NO, NO,
        ANY, ANY, NO, NO,
        NUMBER, NUMBER, NO, NO,
        TRUTH, NO, NO, NO,
        ANY, NO, NO, NO,
        ANY, NO, NO, NO,
        ANY, ANY, NO, NO,
        NUMBER, NO, NO, NO,
        NO, NO, NO, NO,
        NO, NO, NO, NO,
        NO, NO, NO, NO,
        ANY, NAME, NO, NO,
        NAME, NO, NO, NO,
        ANY, NO, NO, NO,
        PROCEDURE, TRUTH, NO, NO,
        PROCEDURE, PROCEDURE, TRUTH, NO,
        PROCEDURE, NUMBER, NO, NO,
        PROCEDURE, NUMBER, NUMBER, NUMBER,
        PROCEDURE, NO, NO, NO,
        NO, NO, NO, NO,
        NO, NO, NO, NO,
        PROCEDURE, NO, NO, NO,
        ANY, NUMBER, NO, NO,
        NUMBER, NO, NO, NO,
        NUMBER, NO, NO, NO,
    };

    private final Procedures procedures;
    private final PileOperators pileOperators;
    private final Pile pile;
    private final Table table;
    private final Handlers handlers;
    private final Frames frames;
    private final Report report;
    private boolean interrupted;
    private int endedBy;
    private int stepsDone;
    private int handlersBegun;

    public ErrorNames() {
        procedures = new Procedures();
        pileOperators = new PileOperators();
        pile = pileOperators.pile();
        table = pileOperators.table();
        handlers = new Handlers();
        frames = new Frames();
        report = new Report();
    }

    public int token(int procedure, int kind, int number) {
        if (!procedures.has(procedure) || kind < NUMBER || kind > OPERATOR) {
            return -1;
        }
        if (!isOfKind(kind, number)) {
            return -2;
        }
        if (procedures.length(procedure) >= MOST_TOKENS) {
            return -4;
        }
        return procedures.append(procedure, kind, number);
    }

    public int clear(int procedure) {
        return procedures.has(procedure) ? procedures.wipe(procedure) : -1;
    }

    public int push(int kind, int number) {
        if (kind < NUMBER || kind > PROCEDURE) {
            return -1;
        }
        if (!isOfKind(kind, number)) {
            return -2;
        }
        return pile.put(kind, number) ? pile.count() : -4;
    }

    public int drop() {
        int had = pile.count();
        pile.takeOff(had);
        return had;
    }

    public int run(int procedure, int steps) {
        if (!procedures.has(procedure)) {
            return -1;
        }
        if (steps < 1 || steps > MOST_STEPS) {
            return -2;
        }
        frames.startWith(procedure);
        endedBy = 0;
        handlersBegun = 0;
        int done = 0;
        for (; done < steps && frames.count() > 0; done++) {
            step();
        }
        stepsDone = done;
        if (frames.count() == 0) {
            return endedBy;
        }
        frames.cutTo(0);
        return TIME_OVER;
    }

    public int interrupt() {
        if (interrupted) {
            return 0;
        }
        interrupted = true;
        return 1;
    }

    public int size() {
        return pile.count();
    }

    public int value(int i, int what) throws IndexOutOfBoundsException {
        if (!pile.has(i) || !isKindOrNumber(what)) {
            throw new IndexOutOfBoundsException("no such place of the pile, or what");
        }
        return what == 0 ? pile.kindAt(i) : pile.numberAt(i);
    }

    public int record(int what) throws IndexOutOfBoundsException {
        if (report.has(what)) {
            return report.told(what);
        }
        switch (what) {
            case 6:
                return stepsDone;
            case 7:
                return frames.most();
            case 8:
                return handlersBegun;
            default:
                throw new IndexOutOfBoundsException("no such what");
        }
    }

    public int kept(int i, int what) throws IndexOutOfBoundsException {
        if (!report.pile().has(i) || !isKindOrNumber(what)) {
            throw new IndexOutOfBoundsException("no such place of the record's pile, or what");
        }
        return what == 0 ? report.pile().kindAt(i) : report.pile().numberAt(i);
    }

    public int handler(int error) throws IndexOutOfBoundsException {
        if (!handlers.has(error)) {
            throw new IndexOutOfBoundsException("no such error");
        }
        return handlers.of(error);
    }

    public int named(int name, int what) throws IndexOutOfBoundsException {
        if (!table.has(name) || !isKindOrNumber(what)) {
            throw new IndexOutOfBoundsException("no such name, or what");
        }
        return what == 0 ? table.kindOf(name) : table.numberOf(name);
    }

    public int forget() {
        handlers.wipe();
        report.wipe();
        interrupted = false;
        return table.wipe();
    }

    private static boolean isKindOrNumber(int what) {
        return what == 0 || what == 1;
    }

    private static boolean isOfKind(int kind, int number) {
        switch (kind) {
            case NUMBER:
                return true;
            case TRUTH:
                return number == 0 || number == 1;
            case NAME:
                return number >= 0 && number < MOST_NAMES;
            case MARK:
                return number == 0;
            case PROCEDURE:
                return number >= 0 && number < MOST_PROCEDURES;
            case OPERATOR:
                return number >= 0 && number < MOST_OPERATORS;
            default:
                return false;
        }
    }

    private void step() {
        switch (frames.topSort()) {
            case Frames.GOING:
                goOn();
                break;
            case Frames.LOOP:
            case Frames.NUMBERED_LOOP:
                turn();
                break;
            case Frames.STOPPED:
                endStopped();
                break;
            default:
                frames.takeTop();
        }
    }

    private void goOn() {
        int procedure = frames.topSubject();
        int place = frames.topPlace();
        if (place >= procedures.length(procedure)) {
            frames.takeTop();
            return;
        }
        frames.goBy();
        int kind = procedures.kindAt(procedure, place);
        int number = procedures.numberAt(procedure, place);
        if (kind == OPERATOR) {
            int error = operate(number);
            if (error != FINE) {
                arise(error, number);
            }
        } else if (!pile.put(kind, number)) {
            arise(TOO_MANY, FOR_VALUE);
        }
    }

    private void turn() {
        if (frames.loopIsOver()) {
            frames.takeTop();
            return;
        }
        boolean numbered = frames.topSort() == Frames.NUMBERED_LOOP;
        if (!frames.roomFor(1)) {
            frames.takeTop();
            arise(TOO_MANY_FRAMES, FOR_TURN);
        } else if (numbered && pile.full()) {
            frames.takeTop();
            arise(TOO_MANY, FOR_TURN);
        } else {
            if (numbered) {
                pile.put(NUMBER, frames.loopNumber());
            }
            frames.turnLoop();
            frames.add(Frames.GOING, frames.topSubject());
        }
    }

    private void endStopped() {
        frames.takeTop();
        if (!pile.put(TRUTH, 0)) {
            arise(TOO_MANY, FOR_STOPPED);
        }
    }

    private void arise(int error, int command) {
        int within = frames.errorHandled();
        int handler = handlers.of(error);
        report.tell(error, command, within, pile);
        if (within != 0 || handler == NONE || !frames.roomFor(2)) {
            stopBy(error);
        } else {
            frames.add(Frames.HANDLING, error);
            frames.add(Frames.GOING, handler);
            handlersBegun++;
        }
    }

    private void stopBy(int reason) {
        int stopped = frames.topmostStopped();
        if (stopped == NONE) {
            frames.cutTo(0);
            endedBy = reason;
            return;
        }
        frames.cutTo(stopped);
        if (pile.full()) {
            pile.takeOff(1);
        }
        pile.put(TRUTH, 1);
    }

    /** The error that the operands' count or kinds make. */
    private int misfit(int operator) {
        int row = operator * MOST_TAKEN;
        if (row < 0 || row > TAKES.length - MOST_TAKEN) {
            return OUT_OF_RANGE;
        }
        int error = FINE;
        for (int i = 0; i < MOST_TAKEN; i++) {
            int wanted = TAKES[row + i];
            if (wanted == NO) {
                return error;
            }
            if (i >= pile.count()) {
                return TOO_FEW;
            }
            if (wanted != ANY && pile.kindUnder(i) != wanted) {
                error = WRONG_KIND;
            }
        }
        return error;
    }

    /** Does an operator, or answers the error that arises and leaves pile and frames as they were. */
    private int operate(int operator) {
        if (interrupted) {
            interrupted = false;
            return INTERRUPTED;
        }
        int error = misfit(operator);
        if (error != FINE) {
            return error;
        }
        switch (operator) {
            case EXECUTE:
                return execute();
            case IF:
                return beginIf();
            case IF_ELSE:
                return begin(pile.numberUnder(pile.numberUnder(2) == 1 ? 1 : 0), 3);
            case REPEAT:
                return repeat(pile.numberUnder(1));
            case COUNT_THROUGH:
                return countThrough(pile.numberUnder(3), pile.numberUnder(2), pile.numberUnder(1));
            case ENDLESSLY:
                return beginLoop(Frames.LOOP, 0, 0, 0, 1);
            case EXIT:
                return exitLoop();
            case STOP:
                stopBy(BY_STOP);
                return FINE;
            case GUARD:
                return guard();
            case HANDLE:
                return setHandler();
            case RAISE:
                return raise(pile.numberUnder(0));
            case TELL:
                return tell(pile.numberUnder(0));
            default:
                return pileOperators.operate(operator);
        }
    }

    private int execute() {
        int kind = pile.kindUnder(0);
        int number = pile.numberUnder(0);
        if (kind == PROCEDURE) {
            return begin(number, 1);
        }
        if (kind != NAME) {
            return FINE;
        }
        if (table.kindOf(number) == PROCEDURE) {
            return begin(table.numberOf(number), 1);
        }
        return pileOperators.lookUp(number);
    }

    private int beginIf() {
        if (pile.numberUnder(1) == 1) {
            return begin(pile.numberUnder(0), 2);
        }
        pile.takeOff(2);
        return FINE;
    }

    private int begin(int procedure, int taken) {
        // A procedure that is through makes its place free, so that a call at its end needs no room.
        boolean through = frames.topSort() == Frames.GOING
            && frames.topPlace() >= procedures.length(frames.topSubject());
        if (through) {
            frames.takeTop();
        } else if (!frames.roomFor(1)) {
            return TOO_MANY_FRAMES;
        }
        pile.takeOff(taken);
        frames.add(Frames.GOING, procedure);
        return FINE;
    }

    private int repeat(int turns) {
        return turns < 0 ? OUT_OF_RANGE : beginLoop(Frames.LOOP, 1, 1, turns, 2);
    }

    private int countThrough(int first, int by, int last) {
        return by == 0 ? OUT_OF_RANGE : beginLoop(Frames.NUMBERED_LOOP, first, by, last, 4);
    }

    private int beginLoop(int sort, int first, int by, int last, int taken) {
        if (!frames.roomFor(1)) {
            return TOO_MANY_FRAMES;
        }
        frames.add(sort, pile.numberUnder(0));
        frames.countBy(first, by, last);
        pile.takeOff(taken);
        return FINE;
    }

    private int exitLoop() {
        int loop = frames.loopToExit();
        if (loop == NONE) {
            return NO_LOOP;
        }
        frames.cutTo(loop);
        return FINE;
    }

    private int guard() {
        if (!frames.roomFor(2)) {
            return TOO_MANY_FRAMES;
        }
        frames.add(Frames.STOPPED, 0);
        frames.add(Frames.GOING, pile.numberUnder(0));
        pile.takeOff(1);
        return FINE;
    }

    private int setHandler() {
        int kind = pile.kindUnder(0);
        int number = pile.numberUnder(0);
        int error = pile.numberUnder(1);
        if (kind != PROCEDURE && kind != NUMBER) {
            return WRONG_KIND;
        }
        if (!handlers.takes(error) || kind == NUMBER && number != NONE) {
            return OUT_OF_RANGE;
        }
        handlers.set(error, number);
        pile.takeOff(2);
        return FINE;
    }

    private int raise(int error) {
        return handlers.takes(error) ? error : OUT_OF_RANGE;
    }

    private int tell(int what) {
        if (!report.has(what)) {
            return OUT_OF_RANGE;
        }
        pile.replace(1, what == Report.NEWNESS ? TRUTH : NUMBER, report.told(what));
        if (what == Report.NEWNESS) {
            report.noMoreNew();
        }
        return FINE;
    }

    /**
     * The operators that touch the pile and the table alone.
     *
     * <p>It makes both itself, so that no constructor hands out a part of the object that it makes.
     */
    private static final class PileOperators {
        private final Pile pile = new Pile();
        private final Table table = new Table();

        Pile pile() {
            return pile;
        }

        Table table() {
            return table;
        }

        int operate(int operator) {
            switch (operator) {
                case ADD:
                    return reckoned(NUMBER, pile.numberUnder(1) + pile.numberUnder(0));
                case SUBTRACT:
                    return reckoned(NUMBER, pile.numberUnder(1) - pile.numberUnder(0));
                case MULTIPLY:
                    return reckoned(NUMBER, pile.numberUnder(1) * pile.numberUnder(0));
                case DIVIDE:
                    return divide(pile.numberUnder(1), pile.numberUnder(0));
                case SAME:
                    return reckoned(TRUTH, topTwoAreTheSame() ? 1 : 0);
                case LESS:
                    return reckoned(TRUTH, pile.numberUnder(1) < pile.numberUnder(0) ? 1 : 0);
                case NOT:
                    pile.replace(1, TRUTH, 1 - pile.numberUnder(0));
                    return FINE;
                case POP:
                    pile.takeOff(1);
                    return FINE;
                case DOUBLE:
                    return more(pile.kindUnder(0), pile.numberUnder(0));
                case SWAP:
                    return swap();
                case PICK:
                    return pick(pile.numberUnder(0));
                case COUNT:
                    return more(NUMBER, pile.count());
                case COUNT_TO_MARK:
                    return countToMark();
                case CLEAR_TO_MARK:
                    return clearToMark();
                case DEFINE:
                    return define();
                case LOOK_UP:
                    return lookUp(pile.numberUnder(0));
                default:
                    return OUT_OF_RANGE;
            }
        }

        int lookUp(int name) {
            int kind = table.kindOf(name);
            if (kind == NONE) {
                return NO_VALUE;
            }
            pile.replace(1, kind, table.numberOf(name));
            return FINE;
        }

        private int reckoned(int kind, int number) {
            pile.replace(2, kind, number);
            return FINE;
        }

        private int divide(int n, int m) {
            if (m == 0) {
                return BY_ZERO;
            }
            pile.replace(2, NUMBER, n / m);
            return FINE;
        }

        private int more(int kind, int number) {
            return pile.put(kind, number) ? FINE : TOO_MANY;
        }

        private boolean topTwoAreTheSame() {
            return pile.kindUnder(0) == pile.kindUnder(1) && pile.numberUnder(0) == pile.numberUnder(1);
        }

        private int swap() {
            int kind = pile.kindUnder(1);
            int number = pile.numberUnder(1);
            int topKind = pile.kindUnder(0);
            int topNumber = pile.numberUnder(0);
            pile.replace(2, topKind, topNumber);
            pile.put(kind, number);
            return FINE;
        }

        private int pick(int others) {
            if (others < 0) {
                return OUT_OF_RANGE;
            }
            if (others >= pile.count() - 1) {
                return TOO_FEW;
            }
            pile.replace(1, pile.kindUnder(others + 1), pile.numberUnder(others + 1));
            return FINE;
        }

        private int countToMark() {
            int mark = pile.topmostMark();
            if (mark == NONE) {
                return NO_MARK;
            }
            return pile.put(NUMBER, pile.count() - 1 - mark) ? FINE : TOO_MANY;
        }

        private int clearToMark() {
            int mark = pile.topmostMark();
            if (mark == NONE) {
                return NO_MARK;
            }
            pile.takeOff(pile.count() - mark);
            return FINE;
        }

        private int define() {
            table.give(pile.numberUnder(1), pile.kindUnder(0), pile.numberUnder(0));
            pile.takeOff(2);
            return FINE;
        }
    }

    /** Values one on the other, place 0 the lowest. */
    private static final class Pile {
        private final int[] kinds = new int[MOST_VALUES];
        private final int[] numbers = new int[MOST_VALUES];
        private int count;

        int count() {
            return count;
        }

        boolean full() {
            return count >= MOST_VALUES;
        }

        boolean has(int place) {
            return place >= 0 && place < count;
        }

        int kindAt(int place) {
            return place >= 0 && place < count ? kinds[place] : NONE;
        }

        int numberAt(int place) {
            return place >= 0 && place < count ? numbers[place] : 0;
        }

        int kindUnder(int others) {
            return others >= 0 && others < count ? kinds[count - 1 - others] : NONE;
        }

        int numberUnder(int others) {
            return others >= 0 && others < count ? numbers[count - 1 - others] : 0;
        }

        /** Puts a value on top; answers whether there was room. */
        boolean put(int kind, int number) {
            if (count >= MOST_VALUES) {
                return false;
            }
            kinds[count] = kind;
            numbers[count] = number;
            count++;
            return true;
        }

        /** Puts a value in the place of some of the topmost ones. */
        void replace(int taken, int kind, int number) {
            if (taken > 0 && taken <= count) {
                count -= taken - 1;
                kinds[count - 1] = kind;
                numbers[count - 1] = number;
            }
        }

        void takeOff(int many) {
            if (many >= 0 && many <= count) {
                count -= many;
            }
        }

        int topmostMark() {
            for (int place = count - 1; place >= 0; place--) {
                if (kinds[place] == MARK) {
                    return place;
                }
            }
            return NONE;
        }

        void copy(Pile other) {
            for (int place = 0; place < other.count && place < MOST_VALUES; place++) {
                kinds[place] = other.kinds[place];
                numbers[place] = other.numbers[place];
            }
            count = other.count;
        }
    }

    /** The values that names have. */
    private static final class Table {
        private final int[] kinds = new int[MOST_NAMES];
        private final int[] numbers = new int[MOST_NAMES];

        Table() {
            Arrays.fill(kinds, NONE);
        }

        boolean has(int name) {
            return name >= 0 && name < MOST_NAMES;
        }

        int kindOf(int name) {
            return name >= 0 && name < MOST_NAMES ? kinds[name] : NONE;
        }

        int numberOf(int name) {
            return name >= 0 && name < MOST_NAMES ? numbers[name] : 0;
        }

        void give(int name, int kind, int number) {
            if (name >= 0 && name < MOST_NAMES) {
                kinds[name] = kind;
                numbers[name] = number;
            }
        }

        int wipe() {
            int had = 0;
            for (int name = 0; name < MOST_NAMES; name++) {
                if (kinds[name] != NONE) {
                    had++;
                }
                kinds[name] = NONE;
                numbers[name] = 0;
            }
            return had;
        }
    }

    /** The tokens of all procedures, in rows of equal length. */
    private static final class Procedures {
        private final int[] kinds = new int[MOST_PROCEDURES * MOST_TOKENS];
        private final int[] numbers = new int[MOST_PROCEDURES * MOST_TOKENS];
        private final int[] lengths = new int[MOST_PROCEDURES];

        boolean has(int procedure) {
            return procedure >= 0 && procedure < MOST_PROCEDURES;
        }

        int length(int procedure) {
            return procedure >= 0 && procedure < MOST_PROCEDURES ? lengths[procedure] : 0;
        }

        int append(int procedure, int kind, int number) {
            if (!has(procedure) || lengths[procedure] >= MOST_TOKENS) {
                return NONE;
            }
            int index = procedure * MOST_TOKENS + lengths[procedure];
            kinds[index] = kind;
            numbers[index] = number;
            lengths[procedure]++;
            return lengths[procedure];
        }

        int wipe(int procedure) {
            int had = length(procedure);
            if (has(procedure)) {
                lengths[procedure] = 0;
            }
            return had;
        }

        int kindAt(int procedure, int place) {
            return hasToken(procedure, place) ? kinds[procedure * MOST_TOKENS + place] : NONE;
        }

        int numberAt(int procedure, int place) {
            return hasToken(procedure, place) ? numbers[procedure * MOST_TOKENS + place] : 0;
        }

        private boolean hasToken(int procedure, int place) {
            return place >= 0 && place < length(procedure);
        }
    }

    /** The procedures that handle errors. */
    private static final class Handlers {
        private final int[] procedures = new int[INTERRUPTED + 1];

        Handlers() {
            Arrays.fill(procedures, NONE);
        }

        boolean has(int error) {
            return error >= TOO_FEW && error <= INTERRUPTED;
        }

        /** Whether an operator may name the error: none arises when time is over. */
        boolean takes(int error) {
            return error >= TOO_FEW && error <= INTERRUPTED && error != TIME_OVER;
        }

        int of(int error) {
            return error >= TOO_FEW && error <= INTERRUPTED ? procedures[error] : NONE;
        }

        void set(int error, int procedure) {
            if (takes(error)) {
                procedures[error] = procedure;
            }
        }

        void wipe() {
            Arrays.fill(procedures, NONE);
        }
    }

    /** The record of the latest error. */
    private static final class Report {
        static final int NEWNESS = 2;

        private final Pile pile = new Pile();
        private int error;
        private int command = NONE;
        private int within;
        private int inAll;
        private boolean isNew;

        Pile pile() {
            return pile;
        }

        boolean has(int what) {
            return what >= 0 && what <= 5;
        }

        int told(int what) {
            switch (what) {
                case 0:
                    return error;
                case 1:
                    return command;
                case NEWNESS:
                    return isNew ? 1 : 0;
                case 3:
                    return within;
                case 4:
                    return pile.count();
                default:
                    return inAll;
            }
        }

        void tell(int newError, int newCommand, int newWithin, Pile found) {
            error = newError;
            command = newCommand;
            within = newWithin;
            inAll++;
            isNew = true;
            pile.copy(found);
        }

        void noMoreNew() {
            isNew = false;
        }

        void wipe() {
            error = 0;
            command = NONE;
            within = 0;
            inAll = 0;
            isNew = false;
            pile.takeOff(pile.count());
        }
    }

    /** The frames of a run, one on top of the other. */
    private static final class Frames {
        static final int GOING = 0;
        static final int LOOP = 1;
        static final int NUMBERED_LOOP = 2;
        static final int STOPPED = 3;
        static final int HANDLING = 4;

        private final int[] sorts = new int[MOST_FRAMES];
        /** A procedure, or the error that is handled. */
        private final int[] subjects = new int[MOST_FRAMES];
        private final int[] places = new int[MOST_FRAMES];
        /** In 64 bits, so that the number behind the greatest int is above every limit. */
        private final long[] nexts = new long[MOST_FRAMES];
        private final int[] bys = new int[MOST_FRAMES];
        private final int[] lasts = new int[MOST_FRAMES];
        private int count;
        private int most;

        int count() {
            return count;
        }

        int most() {
            return most;
        }

        boolean roomFor(int more) {
            return count + more <= MOST_FRAMES;
        }

        void startWith(int procedure) {
            count = 0;
            most = 0;
            add(GOING, procedure);
        }

        void cutTo(int fewer) {
            if (fewer >= 0 && fewer <= count) {
                count = fewer;
            }
        }

        void takeTop() {
            if (count > 0) {
                count--;
            }
        }

        int topSort() {
            return count > 0 ? sorts[count - 1] : NONE;
        }

        int topSubject() {
            return count > 0 ? subjects[count - 1] : NONE;
        }

        int topPlace() {
            return count > 0 ? places[count - 1] : 0;
        }

        void goBy() {
            if (count > 0) {
                places[count - 1]++;
            }
        }

        /** A step of 0 stands for a loop without an end. */
        boolean loopIsOver() {
            if (count == 0) {
                return true;
            }
            int top = count - 1;
            return bys[top] > 0 && nexts[top] > lasts[top] || bys[top] < 0 && nexts[top] < lasts[top];
        }

        int loopNumber() {
            return count > 0 ? (int) nexts[count - 1] : 0;
        }

        void turnLoop() {
            if (count > 0) {
                nexts[count - 1] += bys[count - 1];
            }
        }

        void add(int sort, int subject) {
            if (count >= MOST_FRAMES) {
                return;
            }
            sorts[count] = sort;
            subjects[count] = subject;
            places[count] = 0;
            count++;
            if (count > most) {
                most = count;
            }
        }

        /** Gives the loop on top its numbers. */
        void countBy(int first, int by, int last) {
            if (count > 0) {
                nexts[count - 1] = first;
                bys[count - 1] = by;
                lasts[count - 1] = last;
            }
        }

        int topmostStopped() {
            for (int i = count - 1; i >= 0; i--) {
                if (sorts[i] == STOPPED) {
                    return i;
                }
            }
            return NONE;
        }

        /** The error of the topmost HANDLING above every STOPPED, 0 without one. */
        int errorHandled() {
            for (int i = count - 1; i >= 0 && sorts[i] != STOPPED; i--) {
                if (sorts[i] == HANDLING) {
                    return subjects[i];
                }
            }
            return 0;
        }

        int loopToExit() {
            for (int i = count - 1; i >= 0 && sorts[i] != STOPPED && sorts[i] != HANDLING; i--) {
                if (sorts[i] == LOOP || sorts[i] == NUMBERED_LOOP) {
                    return i;
                }
            }
            return NONE;
        }
    }
}
