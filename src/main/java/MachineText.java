/**
 * Sorting machines in text: a text is signed character by character, read into a machine of
 * feeders, belts, readers, gates and stackers, asked about, and printed again.
 *
 * <p>All rows are made once with the object; no call makes another one.
 */
public final class MachineText {
    public static final int NONE = -1, UNKNOWN = -11, OUTSIDE = -12, STATE = -13;

    private static final int FEEDER = 0, BELT = 1, READER = 2, GATE = 3, STACKER = 4;
    private static final char[] LETTERS = {'F', 'B', 'R', 'G', 'S'};
    private static final int[] LEAST_SIZES = {1, 1, 0, 0, 1};
    private static final int[] MOST_SIZES = {9999, 9999, 9999, 9999, 999};
    private static final int LEAST_SPEED = 1, MOST_SPEED = 9999;

    private static final int MOST_CHARACTERS = 300;
    private static final int MOST_PARTS = 24;
    private static final int NAMES = 30;
    private static final int MOST_DIGITS = 4;

    /** The columns of a machine stand in the order of part's what, so that what is the column. */
    private static final int KIND = 0, NAME = 1, SIZE = 2, SPEED = 3, FIRST_WAY = 4;
    private static final int SECOND_WAY = 5, PART_COLUMNS = 6;
    private static final int MOST_WAYS = 2;

    private static final int NOWHERE = 1, TOO_SLOW = 2, GATE_TO_GATE = 3, ROUND = 4;
    private static final int UNREACHED = 5, FED_FEEDER = 6;

    /** As with the machine's columns: fault's what is the column. */
    private static final int FAULT_KIND = 0, FAULT_NAME = 1, FAULT_WAY = 2, FAULT_COLUMNS = 3;
    /** Of kind 1 two a part, of each of the five others one. */
    private static final int MOST_FAULTS = (MOST_WAYS + 5) * MOST_PARTS;

    private final Parser parser;
    private final Text printed;
    private final Paths paths;
    private final FaultList faults;
    /** Without a part as long as nothing was read: there is no machine then. */
    private Machine machine;
    /** What is read goes in here, so that the machine stays when there is a fault. */
    private Machine spare;

    public MachineText() {
        parser = new Parser();
        printed = new Text();
        paths = new Paths();
        faults = new FaultList();
        machine = new Machine();
        spare = new Machine();
    }

    public boolean sign(int c) {
        return c >= 32 && c <= 126 && parser.text.append((char) c);
    }

    public int read() {
        boolean good = parser.readParts(spare);
        parser.text.clear();
        if (!good) {
            return -1 - parser.place;
        }
        Machine old = machine;
        machine = spare;
        spare = old;
        paths.follow(machine);
        faults.find(machine, paths);
        return machine.count;
    }

    public int part(int i, int what) {
        if (what < 0 || what >= PART_COLUMNS) {
            return OUTSIDE;
        }
        return machine.value(i, what);
    }

    public int check() {
        return machine.count == 0 ? NONE : faults.count;
    }

    public int fault(int i, int what) {
        if (what < 0 || what >= FAULT_COLUMNS) {
            return OUTSIDE;
        }
        return faults.value(i, what);
    }

    public int reach(int bin) {
        int i = machine.indexOf(bin);
        if (i == NONE) {
            return UNKNOWN;
        }
        if (machine.value(i, KIND) != STACKER) {
            return STATE;
        }
        return paths.leastGap(machine, i) == NONE ? 0 : 1;
    }

    public long time(int from, int to) {
        int start = machine.indexOf(from);
        int end = machine.indexOf(to);
        if (start == NONE || end == NONE) {
            return UNKNOWN;
        }
        return start == end ? 0 : paths.leastTime(start, end);
    }

    public int gap(int name) {
        int i = machine.indexOf(name);
        return i == NONE ? UNKNOWN : paths.leastGap(machine, i);
    }

    public boolean suffices(int gate, long gap) {
        int i = machine.indexOf(gate);
        return machine.value(i, KIND) == GATE && machine.value(i, SIZE) <= gap;
    }

    public int print() {
        printed.clear();
        for (int i = 0; i < machine.count; i++) {
            printPart(i);
        }
        return printed.length;
    }

    public int at(int i) {
        return printed.characterAt(i);
    }

    private void printPart(int i) {
        int kind = machine.value(i, KIND);
        if (kind < 0 || kind >= LETTERS.length) {
            return;
        }
        printed.append(LETTERS[kind]);
        printed.appendNumber(machine.value(i, NAME));
        printValue('=', i, SIZE);
        printValue(',', i, SPEED);
        printValue('>', i, FIRST_WAY);
        printValue(',', i, SECOND_WAY);
        printed.append(';');
    }

    private void printValue(char before, int i, int column) {
        int value = machine.value(i, column);
        if (value != NONE) {
            printed.append(before);
            printed.appendNumber(value);
        }
    }

    /** A row of characters with a limit: the text that is signed, and what was printed. */
    private static final class Text {
        final char[] characters;
        int length;

        Text() {
            characters = new char[MOST_CHARACTERS];
            length = 0;
        }

        void clear() {
            length = 0;
        }

        boolean append(char c) {
            if (length < 0 || length >= characters.length) {
                return false;
            }
            characters[length] = c;
            length++;
            return true;
        }

        void appendNumber(int number) {
            for (int unit = 1000; unit >= 1; unit /= 10) {
                if (number >= unit || unit == 1) {
                    append((char) ('0' + number / unit % 10));
                }
            }
        }

        /** NONE where there is no character: so the text's end is like no character of a text. */
        int characterAt(int i) {
            return i < 0 || i >= length || i >= characters.length ? NONE : characters[i];
        }
    }

    /**
     * Holds the text that is signed and reads it from left to right. Whatever finds a fault
     * answers so and leaves the place at the fault.
     */
    private static final class Parser {
        final Text text;
        int place;

        Parser() {
            text = new Text();
            place = 0;
        }

        boolean readParts(Machine into) {
            into.clear();
            place = 0;
            boolean good = readPart(into);
            for (int n = 1; n < MOST_PARTS && good && place < text.length; n++) {
                good = readPart(into);
            }
            return good && place == text.length;
        }

        boolean readPart(Machine into) {
            int kind = kindOf(text.characterAt(place));
            if (kind < 0 || kind >= LEAST_SIZES.length || kind >= MOST_SIZES.length) {
                return false;
            }
            place++;
            return readNewName(into, kind)
                && readValue(into, '=', SIZE, LEAST_SIZES[kind], MOST_SIZES[kind])
                && (kind != BELT || readValue(into, ',', SPEED, LEAST_SPEED, MOST_SPEED))
                && (kind == STACKER || readValue(into, '>', FIRST_WAY, 0, NAMES - 1))
                && (kind != GATE || readValue(into, ',', SECOND_WAY, 0, NAMES - 1))
                && skip(';');
        }

        boolean readNewName(Machine into, int kind) {
            int start = place;
            int name = readNumber(0, NAMES - 1);
            if (name == NONE) {
                return false;
            }
            if (into.indexOf(name) != NONE) {
                place = start;
                return false;
            }
            into.addPart(kind, name);
            return true;
        }

        boolean readValue(Machine into, char before, int column, int least, int most) {
            if (!skip(before)) {
                return false;
            }
            int value = readNumber(least, most);
            if (value == NONE) {
                return false;
            }
            into.setLatest(column, value);
            return true;
        }

        /** A fifth digit is left for what follows, where no digit can be. */
        int readNumber(int least, int most) {
            int start = place;
            int number = 0;
            for (int n = 0; n < MOST_DIGITS && isDigit(text.characterAt(place)); n++) {
                number = number * 10 + text.characterAt(place) - '0';
                place++;
            }
            if (place == start) {
                return NONE;
            }
            if (number < least || number > most) {
                place = start;
                return NONE;
            }
            return number;
        }

        boolean skip(char c) {
            if (text.characterAt(place) != c) {
                return false;
            }
            place++;
            return true;
        }

        static boolean isDigit(int c) {
            return c >= '0' && c <= '9';
        }

        static int kindOf(int letter) {
            for (int kind = 0; kind < LETTERS.length; kind++) {
                if (LETTERS[kind] == letter) {
                    return kind;
                }
            }
            return NONE;
        }
    }

    /** The parts in the order of the text; NONE stands for what a part has not. */
    private static final class Machine {
        final int[][] columns;
        final int[] indexByName;
        int count;

        Machine() {
            columns = new int[PART_COLUMNS][MOST_PARTS];
            indexByName = new int[NAMES];
            clear();
        }

        void clear() {
            count = 0;
            for (int name = 0; name < indexByName.length; name++) {
                indexByName[name] = NONE;
            }
        }

        void addPart(int kind, int name) {
            if (count < 0 || count >= MOST_PARTS || name < 0 || name >= indexByName.length) {
                return;
            }
            indexByName[name] = count;
            count++;
            for (int column = 0; column < PART_COLUMNS; column++) {
                setLatest(column, NONE);
            }
            setLatest(KIND, kind);
            setLatest(NAME, name);
        }

        void setLatest(int column, int value) {
            int i = count - 1;
            if (i >= 0 && i < MOST_PARTS && column >= 0 && column < PART_COLUMNS) {
                columns[column][i] = value;
            }
        }

        int value(int i, int column) {
            if (i < 0 || i >= count || i >= MOST_PARTS || column < 0 || column >= PART_COLUMNS) {
                return NONE;
            }
            return columns[column][i];
        }

        int indexOf(int name) {
            return name < 0 || name >= indexByName.length ? NONE : indexByName[name];
        }

        boolean hasWay(int i, int way) {
            return value(i, FIRST_WAY + way) != NONE;
        }

        /** The part that a way goes to; NONE if it goes nowhere, or there is no such way. */
        int goal(int i, int way) {
            return indexOf(value(i, FIRST_WAY + way));
        }

        /** At most 9999000, so that the sum over all parts of a machine is an int, too. */
        int timeThrough(int i) {
            int size = value(i, SIZE);
            int speed = value(i, SPEED);
            if (value(i, KIND) == BELT && speed > 0) {
                return (1000 * size + speed - 1) / speed;
            }
            return value(i, KIND) == READER ? size : 0;
        }
    }

    /**
     * The least times from part to part over one way at least: a part reaches just those for
     * which there is such a time, itself only if ways lead back to it.
     */
    private static final class Paths {
        final int[][] times;

        Paths() {
            times = new int[MOST_PARTS][MOST_PARTS];
        }

        void follow(Machine machine) {
            forget();
            for (int from = 0; from < machine.count; from++) {
                for (int way = 0; way < MOST_WAYS; way++) {
                    shorten(from, machine.goal(from, way), machine.timeThrough(from));
                }
            }
            for (int middle = 0; middle < machine.count; middle++) {
                for (int from = 0; from < machine.count; from++) {
                    joinAt(middle, from, machine.count);
                }
            }
        }

        void forget() {
            for (int from = 0; from < MOST_PARTS; from++) {
                for (int to = 0; to < MOST_PARTS; to++) {
                    times[from][to] = NONE;
                }
            }
        }

        void joinAt(int middle, int from, int count) {
            int before = leastTime(from, middle);
            if (before == NONE) {
                return;
            }
            for (int to = 0; to < count; to++) {
                int behind = leastTime(middle, to);
                if (behind != NONE) {
                    shorten(from, to, before + behind);
                }
            }
        }

        void shorten(int from, int to, int time) {
            if (from < 0 || from >= MOST_PARTS || to < 0 || to >= MOST_PARTS) {
                return;
            }
            if (times[from][to] == NONE || time < times[from][to]) {
                times[from][to] = time;
            }
        }

        int leastTime(int from, int to) {
            if (from < 0 || from >= MOST_PARTS || to < 0 || to >= MOST_PARTS) {
                return NONE;
            }
            return times[from][to];
        }

        boolean leads(int from, int to) {
            return leastTime(from, to) != NONE;
        }

        boolean isReached(Machine machine, int i) {
            for (int from = 0; from < machine.count; from++) {
                if (leads(from, i)) {
                    return true;
                }
            }
            return false;
        }

        /** NONE if no feeder reaches the part. */
        int leastGap(Machine machine, int i) {
            int least = NONE;
            for (int from = 0; from < machine.count; from++) {
                if (machine.value(from, KIND) == FEEDER && leads(from, i)) {
                    int gap = machine.value(from, SIZE);
                    least = least == NONE || gap < least ? gap : least;
                }
            }
            return least;
        }
    }

    /** The faults of a machine in their order. */
    private static final class FaultList {
        final int[][] columns;
        int count;

        FaultList() {
            columns = new int[FAULT_COLUMNS][MOST_FAULTS];
            count = 0;
        }

        void find(Machine machine, Paths paths) {
            count = 0;
            findWaysToNowhere(machine);
            for (int kind = TOO_SLOW; kind <= FED_FEEDER; kind++) {
                for (int i = 0; i < machine.count; i++) {
                    if (isFaulty(kind, machine, paths, i)) {
                        add(kind, machine.value(i, NAME), NONE);
                    }
                }
            }
        }

        void findWaysToNowhere(Machine machine) {
            for (int i = 0; i < machine.count; i++) {
                for (int way = 0; way < MOST_WAYS; way++) {
                    if (machine.hasWay(i, way) && machine.goal(i, way) == NONE) {
                        add(NOWHERE, machine.value(i, NAME), way);
                    }
                }
            }
        }

        static boolean isFaulty(int fault, Machine machine, Paths paths, int i) {
            int kind = machine.value(i, KIND);
            switch (fault) {
                case TOO_SLOW:
                    return kind == GATE && isTooSlow(machine, paths, i);
                case GATE_TO_GATE:
                    return kind == GATE && goesToGate(machine, i);
                case ROUND:
                    return paths.leads(i, i);
                case UNREACHED:
                    return kind == STACKER && paths.leastGap(machine, i) == NONE;
                case FED_FEEDER:
                    return kind == FEEDER && paths.isReached(machine, i);
                default:
                    return false;
            }
        }

        static boolean isTooSlow(Machine machine, Paths paths, int gate) {
            int gap = paths.leastGap(machine, gate);
            return gap != NONE && machine.value(gate, SIZE) > gap;
        }

        static boolean goesToGate(Machine machine, int gate) {
            for (int way = 0; way < MOST_WAYS; way++) {
                if (machine.value(machine.goal(gate, way), KIND) == GATE) {
                    return true;
                }
            }
            return false;
        }

        void add(int kind, int name, int way) {
            if (count < 0 || count >= MOST_FAULTS) {
                return;
            }
            columns[FAULT_KIND][count] = kind;
            columns[FAULT_NAME][count] = name;
            columns[FAULT_WAY][count] = way;
            count++;
        }

        int value(int i, int column) {
            if (i < 0 || i >= count || i >= MOST_FAULTS || column < 0 || column >= FAULT_COLUMNS) {
                return NONE;
            }
            return columns[column][i];
        }
    }
}
