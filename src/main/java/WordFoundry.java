import java.util.Arrays;
import java.util.NoSuchElementException;

/** A system that grows out of its own words: lines of words are entered, and done or compiled. */
public final class WordFoundry {
    private static final int LINE_WORDS = 40;
    private static final int STACK_NUMBERS = 40;
    private static final int CELLS = 100;
    private static final int ENTRIES = 30;
    private static final int OPS = 40;
    private static final int NAMES = 16;
    private static final int LEVELS = 30;
    private static final int LINE_STEPS = 1000;
    private static final int CHECK_STEPS = 150;
    /** Each mark but 'b' comes with an op, and 'b' marks of one place share a row: these are plenty. */
    private static final int MARKS = 160;
    /** Far above the turns that a run of 1000 steps can take. */
    private static final int TURNS = 1000000;
    private static final int FIRST_PRINTED = 160;
    /** Far above what 512 calls can put out. */
    private static final int MOST_PRINTED = 600000;

    private static final int FINE = 0;
    private static final int STACK_FULL = -3;
    private static final int STACK_SHORT = -4;
    private static final int TOO_DEEP = -5;
    private static final int NONE_OF_ITS_OWN = -6;
    private static final int NO_ROOM = -8;
    private static final int NO_CELL = -9;
    private static final int DIVIDED_BY_ZERO = -10;
    private static final int NOT_FOUND = -13;
    private static final int NOT_MAKING = -14;
    private static final int NO_NAME = -16;
    private static final int MARKS_DIFFER = -22;
    private static final int NO_VOCABULARY = -24;
    private static final int SECOND_UNEVEN = -25;
    private static final int MAKING_ALREADY = -29;
    private static final int NOT_CREATED = -31;
    private static final int WOULD_GO = -31;
    private static final int NOT_DEFERRED = -32;
    private static final int OUT_OF_STEPS = -90;

    private static final int NUMBER = 0;
    private static final int CORE = 1;
    private static final int NAME = 2;
    private static final int NOTHING = 3;

    /** Stands for no entry, no name, and no mark. */
    private static final int NONE = -1;

    /** The core words that are not immediate, and what each needs and gives; 'x' tells that it has no effect. */
    private static final String PLAIN = "dpsor+-*/%<=.{}_ha,@#etC]IkWOcKfm:";
    private static final String NEEDS = "1122322222221100011121110011101000";
    private static final String GIVES = "202331111111001110010x0xx0x00xxxxx";
    private static final String IMMEDIATE = "?~|buwgDLliXxvT['P;";

    private final Machine machine;
    private final FrameRunner runner;
    private final Effects effects;
    private final SoundCheck check;
    private final int[] trail;
    private int trailLength;
    private int failure;
    private int lineCount;
    private int failureCount;
    private long stepTotal;

    public WordFoundry() {
        machine = new Machine(LINE_STEPS);
        runner = new FrameRunner(machine);
        effects = new Effects(machine.dictionary);
        check = new SoundCheck();
        trail = new int[LEVELS];
    }

    // ---- lines

    public int word(char core) throws IllegalArgumentException, IllegalStateException {
        if (PLAIN.indexOf(core) < 0 && IMMEDIATE.indexOf(core) < 0) {
            throw new IllegalArgumentException("there is no such core word");
        }
        if (machine.line.isFull()) {
            throw new IllegalStateException("the line has 40 words");
        }
        return machine.line.add(CORE, core);
    }

    public int name(int name) throws IllegalArgumentException, IllegalStateException {
        if (name < 0 || name >= NAMES) {
            throw new IllegalArgumentException("there is no such name");
        }
        if (machine.line.isFull()) {
            throw new IllegalStateException("the line has 40 words");
        }
        return machine.line.add(NAME, name);
    }

    public int number(int n) throws IllegalStateException {
        if (machine.line.isFull()) {
            throw new IllegalStateException("the line has 40 words");
        }
        return machine.line.add(NUMBER, n);
    }

    public char enter() {
        machine.stepCount = 0;
        int fault = FINE;
        for (int turn = 0; turn < LINE_WORDS && fault == FINE && machine.line.hasMore(); turn++) {
            fault = runner.drive(runner.readWord());
        }
        machine.line.clear();
        lineCount++;
        stepTotal += machine.stepCount;
        failure = fault;
        trailLength = 0;
        if (fault != FINE) {
            failureCount++;
            keepTrail(fault);
            machine.abandon();
            runner.abandon();
            return 'e';
        }
        return machine.compiling ? 'c' : 'o';
    }

    private void keepTrail(int fault) {
        if (fault == OUT_OF_STEPS) {
            return;
        }
        trailLength = Math.min(machine.level, LEVELS);
        for (int i = 0; i < trailLength; i++) {
            trail[i] = machine.running[trailLength - 1 - i];
        }
    }

    public int error() throws NoSuchElementException {
        if (failure == FINE) {
            throw new NoSuchElementException("the last line had no error");
        }
        return failure;
    }

    public int trace() {
        return trailLength;
    }

    public int traceAt(int index) throws IndexOutOfBoundsException {
        if (index < 0 || index >= trailLength) {
            throw new IndexOutOfBoundsException("there is no such running entry");
        }
        return trail[index];
    }

    // ---- stacks and cells

    public int depth() {
        return machine.first.size;
    }

    public int at(int index) throws IndexOutOfBoundsException {
        if (index < 0 || index >= machine.first.size) {
            throw new IndexOutOfBoundsException("there is no such number on the stack");
        }
        return machine.first.peek(index);
    }

    public int second() {
        return machine.second.size;
    }

    public int here() {
        return machine.used;
    }

    public int cell(int address) throws IndexOutOfBoundsException {
        if (address < 0 || address >= CELLS) {
            throw new IndexOutOfBoundsException("there is no such cell");
        }
        return machine.cells[address];
    }

    public int outs() {
        return machine.printed.count;
    }

    public int outAt(int index) throws IndexOutOfBoundsException {
        if (index < 0 || index >= machine.printed.count) {
            throw new IndexOutOfBoundsException("there is no such output");
        }
        return machine.printed.numbers[index];
    }

    // ---- entries

    public int entries() {
        return machine.dictionary.size;
    }

    public int nameOf(int entry) throws IndexOutOfBoundsException {
        if (!machine.dictionary.has(entry)) {
            throw new IndexOutOfBoundsException("there is no such entry");
        }
        return machine.dictionary.names[entry];
    }

    public char kindOf(int entry) throws IndexOutOfBoundsException {
        if (!machine.dictionary.has(entry)) {
            throw new IndexOutOfBoundsException("there is no such entry");
        }
        return (char) machine.dictionary.kinds[entry];
    }

    public boolean isImmediate(int entry) throws IndexOutOfBoundsException {
        if (!machine.dictionary.has(entry)) {
            throw new IndexOutOfBoundsException("there is no such entry");
        }
        return machine.dictionary.immediates[entry];
    }

    public int vocabularyOf(int entry) throws IndexOutOfBoundsException {
        if (!machine.dictionary.has(entry)) {
            throw new IndexOutOfBoundsException("there is no such entry");
        }
        return machine.dictionary.vocabularies[entry];
    }

    public int find(int name) throws IllegalArgumentException, NoSuchElementException {
        if (name < 0 || name >= NAMES) {
            throw new IllegalArgumentException("there is no such name");
        }
        int entry = machine.dictionary.search(name);
        if (entry == NONE) {
            throw new NoSuchElementException("the name is not found");
        }
        return entry;
    }

    public int ops(int entry) throws IndexOutOfBoundsException {
        if (!machine.dictionary.has(entry)) {
            throw new IndexOutOfBoundsException("there is no such entry");
        }
        return machine.dictionary.opCounts[entry];
    }

    public char opAt(int entry, int index) throws IndexOutOfBoundsException {
        if (!machine.dictionary.hasOp(entry, index)) {
            throw new IndexOutOfBoundsException("there is no such entry or op");
        }
        return machine.dictionary.opKind(entry, index);
    }

    public int opNumber(int entry, int index) throws IndexOutOfBoundsException {
        if (!machine.dictionary.hasOp(entry, index)) {
            throw new IndexOutOfBoundsException("there is no such entry or op");
        }
        return machine.dictionary.opValue(entry, index);
    }

    public int effect(int entry) throws IndexOutOfBoundsException, UnsupportedOperationException {
        if (!machine.dictionary.has(entry)) {
            throw new IndexOutOfBoundsException("there is no such entry");
        }
        effects.measureThrough(entry);
        if (!effects.known[entry]) {
            throw new UnsupportedOperationException("the entry has no effect");
        }
        return effects.told(entry);
    }

    public boolean isMaking() {
        return machine.draft.making;
    }

    // ---- figures

    public long steps() {
        return stepTotal;
    }

    public int lines() {
        return lineCount;
    }

    public float errorShare() throws ArithmeticException {
        if (lineCount == 0) {
            throw new ArithmeticException("no line was entered");
        }
        return (float) failureCount / (float) lineCount;
    }

    public double meanSteps() throws ArithmeticException {
        if (lineCount == 0) {
            throw new ArithmeticException("no line was entered");
        }
        return (double) stepTotal / (double) lineCount;
    }

    public boolean isSound() {
        Dictionary dictionary = machine.dictionary;
        effects.measureThrough(dictionary.size - 1);
        for (int entry = 0; entry < dictionary.size; entry++) {
            if (dictionary.immediates[entry]) {
                continue;
            }
            check.prepare(machine);
            int fault = check.frames.drive(check.frames.begin(entry));
            int recursionFault = check.recursion.runEntry(entry, 0);
            if (!check.agrees(fault, recursionFault) || fault == FINE && !grewAsTold(entry)) {
                return false;
            }
        }
        return true;
    }

    /** Whether the first stack is as much higher behind a checked run as the effect of its entry tells. */
    private boolean grewAsTold(int entry) {
        int grown = check.framed.first.size - machine.first.size;
        return !effects.known[entry] || effects.tellsGrowth(entry, grown);
    }

    /** The words of the line, and the place up to which they were read. */
    private static final class Line {
        private final int[] sorts = new int[LINE_WORDS];
        private final int[] values = new int[LINE_WORDS];
        private int length;
        private int place;

        private boolean isFull() {
            return length >= LINE_WORDS;
        }

        private int add(int sort, int value) {
            if (length < LINE_WORDS) {
                sorts[length] = sort;
                values[length] = value;
                length++;
            }
            return length;
        }

        private boolean hasMore() {
            return place < length;
        }

        private int nextSort() {
            return place < length ? sorts[place] : NOTHING;
        }

        private int nextValue() {
            return place < length ? values[place] : NONE;
        }

        private int takeName() {
            if (place >= length || sorts[place] != NAME) {
                return NONE;
            }
            place++;
            return values[place - 1];
        }

        private void clear() {
            length = 0;
            place = 0;
        }
    }

    /** A stack, with a row for each level of running in which it is kept until something thrown is caught. */
    private static final class Stack {
        private final int[] numbers = new int[STACK_NUMBERS];
        private final int[] kept = new int[STACK_NUMBERS * (LEVELS + 1)];
        private final int[] keptSizes = new int[LEVELS + 1];
        private int size;

        private boolean holds(int count) {
            return size >= count;
        }

        private int put(int n) {
            if (size >= STACK_NUMBERS) {
                return STACK_FULL;
            }
            numbers[size] = n;
            size++;
            return FINE;
        }

        private int take() {
            if (size <= 0) {
                return 0;
            }
            size--;
            return numbers[size];
        }

        private int peek(int index) {
            return index >= 0 && index < size ? numbers[size - 1 - index] : 0;
        }

        private void change(int index, int n) {
            if (index >= 0 && index < size) {
                numbers[size - 1 - index] = n;
            }
        }

        private void drop(int count) {
            size = Math.max(0, size - count);
        }

        private void keep(int level) {
            if (level >= 0 && level <= LEVELS) {
                System.arraycopy(numbers, 0, kept, level * STACK_NUMBERS, size);
                keptSizes[level] = size;
            }
        }

        private void bringBack(int level) {
            if (level >= 0 && level <= LEVELS) {
                size = keptSizes[level];
                System.arraycopy(kept, level * STACK_NUMBERS, numbers, 0, size);
            }
        }

        private void copyFrom(Stack other) {
            size = other.size;
            System.arraycopy(other.numbers, 0, numbers, 0, size);
        }

        private boolean isLike(Stack other) {
            if (size != other.size) {
                return false;
            }
            for (int i = 0; i < size; i++) {
                if (numbers[i] != other.numbers[i]) {
                    return false;
                }
            }
            return true;
        }
    }

    /** The numbers that were put out. */
    private static final class Printed {
        private int[] numbers = new int[FIRST_PRINTED];
        private int count;

        private int add(int n) {
            if (count >= MOST_PRINTED) {
                return NO_ROOM;
            }
            if (count >= numbers.length) {
                numbers = Arrays.copyOf(numbers, Math.min(2 * count, MOST_PRINTED));
            }
            numbers[count] = n;
            count++;
            return FINE;
        }

        private boolean isLike(Printed other) {
            if (count != other.count) {
                return false;
            }
            for (int i = 0; i < count; i++) {
                if (numbers[i] != other.numbers[i]) {
                    return false;
                }
            }
            return true;
        }
    }

    /** The entries, and the two vocabularies into which they come and in which they are searched. */
    private static final class Dictionary {
        private final int[] names = new int[ENTRIES];
        private final int[] vocabularies = new int[ENTRIES];
        private final int[] kinds = new int[ENTRIES];
        private final boolean[] immediates = new boolean[ENTRIES];
        /** The address, the value, the entry that a deferred one has, or here as a marker was made. */
        private final int[] values = new int[ENTRIES];
        /** The entry that has the doing part of what was created, and the op with which that begins. */
        private final int[] doingEntries = new int[ENTRIES];
        private final int[] doingStarts = new int[ENTRIES];
        private final int[] opCounts = new int[ENTRIES];
        private final int[] opKinds = new int[ENTRIES * OPS];
        private final int[] opNumbers = new int[ENTRIES * OPS];
        private int size;
        private int newVocabulary;
        private int searchedVocabulary;

        private boolean has(int entry) {
            return entry >= 0 && entry < size;
        }

        private boolean hasOp(int entry, int index) {
            return has(entry) && index >= 0 && index < opCounts[entry];
        }

        private char opKind(int entry, int index) {
            return hasOp(entry, index) ? (char) opKinds[entry * OPS + index] : 'x';
        }

        private int opValue(int entry, int index) {
            return hasOp(entry, index) ? opNumbers[entry * OPS + index] : 0;
        }

        private int add(char kind, int name, int vocabulary, int value) {
            if (size >= ENTRIES) {
                return NO_ROOM;
            }
            names[size] = name;
            vocabularies[size] = vocabulary;
            kinds[size] = kind;
            immediates[size] = false;
            values[size] = value;
            doingEntries[size] = NONE;
            doingStarts[size] = 0;
            opCounts[size] = 0;
            size++;
            return FINE;
        }

        /** The latest entry gets the ops of the word that was being made. */
        private void takeOps(Draft draft) {
            int entry = size - 1;
            if (entry < 0) {
                return;
            }
            opCounts[entry] = draft.opCount;
            System.arraycopy(draft.opKinds, 0, opKinds, entry * OPS, draft.opCount);
            System.arraycopy(draft.opNumbers, 0, opNumbers, entry * OPS, draft.opCount);
        }

        private int search(int name) {
            int fallback = NONE;
            for (int entry = size - 1; entry >= 0; entry--) {
                if (names[entry] == name && vocabularies[entry] == searchedVocabulary) {
                    return entry;
                }
                if (names[entry] == name && vocabularies[entry] == 0 && fallback == NONE) {
                    fallback = entry;
                }
            }
            return fallback;
        }

        private void cut(int newSize) {
            if (newSize < 0 || newSize > size) {
                return;
            }
            size = newSize;
            for (int entry = 0; entry < size; entry++) {
                if (kinds[entry] == 'f' && values[entry] >= size) {
                    values[entry] = NONE;
                }
                if (doingEntries[entry] >= size) {
                    doingEntries[entry] = NONE;
                }
            }
        }

        private void copyFrom(Dictionary other) {
            size = other.size;
            newVocabulary = other.newVocabulary;
            searchedVocabulary = other.searchedVocabulary;
            System.arraycopy(other.names, 0, names, 0, size);
            System.arraycopy(other.vocabularies, 0, vocabularies, 0, size);
            System.arraycopy(other.kinds, 0, kinds, 0, size);
            System.arraycopy(other.values, 0, values, 0, size);
            System.arraycopy(other.doingEntries, 0, doingEntries, 0, size);
            System.arraycopy(other.doingStarts, 0, doingStarts, 0, size);
            System.arraycopy(other.opCounts, 0, opCounts, 0, size);
            for (int entry = 0; entry < size; entry++) {
                immediates[entry] = other.immediates[entry];
                System.arraycopy(other.opKinds, entry * OPS, opKinds, entry * OPS, opCounts[entry]);
                System.arraycopy(other.opNumbers, entry * OPS, opNumbers, entry * OPS, opCounts[entry]);
            }
        }
    }

    /** The word that is being made, with the pile of marks that tell what is open in it. */
    private static final class Draft {
        private final int[] opKinds = new int[OPS];
        private final int[] opNumbers = new int[OPS];
        /** For an 'l', the op of the 'D' to which it belongs. */
        private final int[] owners = new int[OPS];
        private final int[] markKinds = new int[MARKS];
        private final int[] markPlaces = new int[MARKS];
        /** How many marks of one kind and place lie there one on the other. */
        private final int[] markCounts = new int[MARKS];
        private boolean making;
        private int name;
        private int vocabulary;
        private int opCount;
        private int markRows;

        private void begin(int newName, int newVocabulary) {
            making = true;
            name = newName;
            vocabulary = newVocabulary;
            opCount = 0;
            markRows = 0;
        }

        private void drop() {
            making = false;
        }

        private int emit(char kind, int number) {
            if (!making) {
                return NOT_MAKING;
            }
            if (opCount >= OPS) {
                return NO_ROOM;
            }
            opKinds[opCount] = kind;
            opNumbers[opCount] = number;
            opCount++;
            return FINE;
        }

        private int uppermost() {
            return markRows > 0 ? markKinds[markRows - 1] : NONE;
        }

        private int uppermostPlace() {
            return markRows > 0 ? markPlaces[markRows - 1] : 0;
        }

        private int putMark(char kind, int place) {
            int row = markRows - 1;
            if (row >= 0 && kind == 'b' && markKinds[row] == 'b' && markPlaces[row] == place) {
                markCounts[row]++;
                return FINE;
            }
            if (markRows >= MARKS) {
                return NO_ROOM;
            }
            markKinds[markRows] = kind;
            markPlaces[markRows] = place;
            markCounts[markRows] = 1;
            markRows++;
            return FINE;
        }

        private void takeMark() {
            if (markRows <= 0) {
                return;
            }
            markCounts[markRows - 1]--;
            if (markCounts[markRows - 1] <= 0) {
                markRows--;
            }
        }

        private void lead(int op, int place) {
            if (op >= 0 && op < opCount) {
                opNumbers[op] = place;
            }
        }

        private int openForward() {
            int fault = emit('z', 0);
            return fault != FINE ? fault : putMark('i', opCount - 1);
        }

        private int landForward() {
            if (uppermost() != 'i') {
                return MARKS_DIFFER;
            }
            lead(uppermostPlace(), opCount);
            takeMark();
            return FINE;
        }

        private int openOther() {
            if (uppermost() != 'i') {
                return MARKS_DIFFER;
            }
            int fault = emit('j', 0);
            if (fault != FINE) {
                return fault;
            }
            lead(uppermostPlace(), opCount);
            takeMark();
            return putMark('i', opCount - 1);
        }

        private int closeBack() {
            if (uppermost() != 'b') {
                return MARKS_DIFFER;
            }
            int fault = emit('z', uppermostPlace());
            if (fault == FINE) {
                takeMark();
            }
            return fault;
        }

        private int openInside() {
            if (uppermost() != 'b') {
                return MARKS_DIFFER;
            }
            int fault = emit('z', 0);
            if (fault != FINE) {
                return fault;
            }
            int back = uppermostPlace();
            takeMark();
            fault = putMark('i', opCount - 1);
            return fault != FINE ? fault : putMark('b', back);
        }

        private int closeBoth() {
            if (uppermost() != 'b' || !hasForwardBelow()) {
                return MARKS_DIFFER;
            }
            int fault = emit('j', uppermostPlace());
            if (fault != FINE) {
                return fault;
            }
            takeMark();
            lead(uppermostPlace(), opCount);
            takeMark();
            return FINE;
        }

        private boolean hasForwardBelow() {
            return markRows > 1 && markCounts[markRows - 1] == 1 && markKinds[markRows - 2] == 'i';
        }

        private int openCounted() {
            int fault = emit('D', 0);
            return fault != FINE ? fault : putMark('D', opCount - 1);
        }

        private int closeCounted() {
            if (uppermost() != 'D') {
                return MARKS_DIFFER;
            }
            int counted = uppermostPlace();
            int fault = emit('L', counted + 1);
            if (fault != FINE) {
                return fault;
            }
            for (int op = 0; op < opCount; op++) {
                if (opKinds[op] == 'l' && owners[op] == counted) {
                    opNumbers[op] = opCount;
                }
            }
            takeMark();
            return FINE;
        }

        private int leaveCounted() {
            for (int row = markRows - 1; row >= 0; row--) {
                if (markKinds[row] == 'D') {
                    int fault = emit('l', 0);
                    if (fault == FINE) {
                        owners[opCount - 1] = markPlaces[row];
                    }
                    return fault;
                }
            }
            return MARKS_DIFFER;
        }
    }

    /** All that lines change: stacks, cells, entries, the word that is being made, and what runs. */
    private static final class Machine {
        private final Stack first = new Stack();
        private final Stack second = new Stack();
        private final int[] cells = new int[CELLS];
        private final Printed printed = new Printed();
        private final Dictionary dictionary = new Dictionary();
        private final Draft draft = new Draft();
        private final Line line = new Line();
        private final int[] running = new int[LEVELS];
        /** How many numbers the second stack had as each running word began. */
        private final int[] bases = new int[LEVELS];
        private final int mostSteps;
        private int used;
        private int level;
        private int stepCount;
        /** Set if the steps ran out, which is not caught. */
        private boolean exhausted;
        private boolean compiling;
        /** The op that is next behind the latest one that may jump. */
        private int target;

        private Machine(int steps) {
            mostSteps = steps;
        }

        private int step() {
            if (stepCount >= mostSteps) {
                exhausted = true;
                return OUT_OF_STEPS;
            }
            stepCount++;
            return FINE;
        }

        private int open(int entry) {
            if (level < 0 || level >= LEVELS) {
                return TOO_DEEP;
            }
            running[level] = entry;
            bases[level] = second.size;
            level++;
            return FINE;
        }

        private int close() {
            if (level <= 0) {
                return FINE;
            }
            if (second.size != bases[level - 1]) {
                return SECOND_UNEVEN;
            }
            level--;
            return FINE;
        }

        /** How many numbers came to the second stack since the word that is running began. */
        private int ownOnSecond() {
            return level > 0 && level <= LEVELS ? second.size - bases[level - 1] : second.size;
        }

        private void keepStacks() {
            first.keep(level);
            second.keep(level);
        }

        private void bringStacksBack() {
            first.bringBack(level);
            second.bringBack(level);
        }

        private void abandon() {
            first.size = 0;
            second.size = 0;
            draft.drop();
            compiling = false;
            exhausted = false;
            level = 0;
        }

        private void copyFrom(Machine other) {
            abandon();
            first.copyFrom(other.first);
            System.arraycopy(other.cells, 0, cells, 0, CELLS);
            dictionary.copyFrom(other.dictionary);
            printed.count = 0;
            line.clear();
            used = other.used;
            stepCount = 0;
        }

        private boolean isLike(Machine other) {
            for (int address = 0; address < CELLS; address++) {
                if (cells[address] != other.cells[address]) {
                    return false;
                }
            }
            return first.isLike(other.first) && second.isLike(other.second) && printed.isLike(other.printed);
        }

        /** Does an op that only puts a number, or compiles something. */
        private int doOp(char kind, int number) {
            switch (kind) {
                case 'n':
                    return first.put(number);
                case 'p':
                    return draft.emit('c', number);
                case 'q':
                    return draft.emit('w', number);
                case 'D':
                    return beginCounting();
                default:
                    return FINE;
            }
        }

        /** Does an op that may jump; target is the op that is next then. */
        private int jump(char kind, int number, int next) {
            target = next;
            switch (kind) {
                case 'j':
                    target = number;
                    return FINE;
                case 'z':
                    if (!first.holds(1)) {
                        return STACK_SHORT;
                    }
                    target = first.take() == 0 ? number : next;
                    return FINE;
                case 'L':
                    return countOn(number);
                case 'l':
                    return leaveCounting(number);
                default:
                    return FINE;
            }
        }

        private int beginCounting() {
            if (!first.holds(2)) {
                return STACK_SHORT;
            }
            int index = first.take();
            int limit = first.take();
            int fault = second.put(limit);
            return fault != FINE ? fault : second.put(index);
        }

        private int countOn(int place) {
            if (ownOnSecond() < 2) {
                return NONE_OF_ITS_OWN;
            }
            int index = second.peek(0) + 1;
            if (index == second.peek(1)) {
                second.drop(2);
                return FINE;
            }
            second.change(0, index);
            target = place;
            return FINE;
        }

        private int leaveCounting(int place) {
            if (ownOnSecond() < 2) {
                return NONE_OF_ITS_OWN;
            }
            second.drop(2);
            target = place;
            return FINE;
        }

        /** Does a core word that is not immediate, or i; but e and C, which run entries, the runners do. */
        private int core(char word) {
            int listed = PLAIN.indexOf(word);
            if (listed >= 0 && !first.holds(NEEDS.charAt(listed) - '0')) {
                return STACK_SHORT;
            }
            switch (word) {
                case 'd':
                case 'p':
                case 's':
                case 'o':
                case 'r':
                    return shuffle(word);
                case '+':
                case '-':
                case '*':
                case '/':
                case '%':
                case '<':
                case '=':
                    return reckon(word);
                case '.':
                case '{':
                case '}':
                case '_':
                case 'i':
                    return move(word);
                case 'h':
                case 'a':
                case ',':
                case '@':
                case '#':
                    return store(word);
                case 'c':
                case 'K':
                case 'f':
                case 'm':
                case ':':
                    return define(word);
                case 'k':
                    return redirect();
                default:
                    return govern(word);
            }
        }

        private int shuffle(char word) {
            int top = first.peek(0);
            int next = first.peek(1);
            switch (word) {
                case 'd':
                    return first.put(top);
                case 'p':
                    first.drop(1);
                    return FINE;
                case 's':
                    first.change(0, next);
                    first.change(1, top);
                    return FINE;
                case 'o':
                    return first.put(next);
                default:
                    int third = first.peek(2);
                    first.change(2, next);
                    first.change(1, top);
                    first.change(0, third);
                    return FINE;
            }
        }

        private int reckon(char word) {
            int b = first.take();
            int a = first.take();
            switch (word) {
                case '+':
                    return first.put(a + b);
                case '-':
                    return first.put(a - b);
                case '*':
                    return first.put(a * b);
                case '<':
                    return first.put(a < b ? -1 : 0);
                case '=':
                    return first.put(a == b ? -1 : 0);
                default:
                    if (b == 0) {
                        return DIVIDED_BY_ZERO;
                    }
                    return first.put(word == '/' ? Math.floorDiv(a, b) : Math.floorMod(a, b));
            }
        }

        private int move(char word) {
            switch (word) {
                case '.':
                    return printed.add(first.take());
                case '{':
                    return second.put(first.take());
                default:
                    if (ownOnSecond() < 1) {
                        return NONE_OF_ITS_OWN;
                    }
                    int n = second.peek(0);
                    if (word == '}' && first.size < STACK_NUMBERS) {
                        second.drop(1);
                    }
                    return first.put(n);
            }
        }

        private int store(char word) {
            switch (word) {
                case 'h':
                    return first.put(used);
                case 'a':
                    long grown = (long) used + first.take();
                    if (grown < 0 || grown > CELLS) {
                        return NO_ROOM;
                    }
                    used = (int) grown;
                    return FINE;
                case ',':
                    if (used < 0 || used >= CELLS) {
                        return NO_ROOM;
                    }
                    cells[used] = first.take();
                    used++;
                    return FINE;
                default:
                    int address = first.take();
                    if (address < 0 || address >= CELLS) {
                        return NO_CELL;
                    }
                    if (word == '@') {
                        return first.put(cells[address]);
                    }
                    cells[address] = first.take();
                    return FINE;
            }
        }

        /** Does a word that makes an entry, or begins to, with the next word of the line as its name. */
        private int define(char word) {
            int newName = line.takeName();
            if (newName == NONE) {
                return NO_NAME;
            }
            switch (word) {
                case 'c':
                    return dictionary.add('c', newName, dictionary.newVocabulary, used);
                case 'K':
                    return dictionary.add('K', newName, dictionary.newVocabulary, first.take());
                case 'f':
                    return dictionary.add('f', newName, dictionary.newVocabulary, NONE);
                case 'm':
                    return dictionary.add('m', newName, dictionary.newVocabulary, used);
                default:
                    if (draft.making) {
                        return MAKING_ALREADY;
                    }
                    draft.begin(newName, dictionary.newVocabulary);
                    compiling = true;
                    return FINE;
            }
        }

        private int redirect() {
            int sought = line.takeName();
            if (sought == NONE) {
                return NO_NAME;
            }
            int deferred = dictionary.search(sought);
            int entry = first.take();
            if (!dictionary.has(deferred)) {
                return NOT_FOUND;
            }
            if (dictionary.kinds[deferred] != 'f') {
                return NOT_DEFERRED;
            }
            if (!dictionary.has(entry)) {
                return NOT_FOUND;
            }
            dictionary.values[deferred] = entry;
            return FINE;
        }

        private int govern(char word) {
            switch (word) {
                case 't':
                    return first.take();
                case ']':
                    compiling = true;
                    return FINE;
                case 'I':
                    if (!dictionary.has(dictionary.size - 1)) {
                        return NOT_FOUND;
                    }
                    dictionary.immediates[dictionary.size - 1] = true;
                    return FINE;
                case 'W':
                case 'O':
                    int vocabulary = first.take();
                    if (vocabulary != 0 && vocabulary != 1) {
                        return NO_VOCABULARY;
                    }
                    if (word == 'W') {
                        dictionary.newVocabulary = vocabulary;
                    } else {
                        dictionary.searchedVocabulary = vocabulary;
                    }
                    return FINE;
                default:
                    return FINE;
            }
        }

        private int immediate(char word) {
            if (word == '[') {
                compiling = false;
                return FINE;
            }
            if (word == '\'') {
                return tick();
            }
            if (!draft.making) {
                return NOT_MAKING;
            }
            switch (word) {
                case '?':
                    return draft.openForward();
                case '~':
                    return draft.landForward();
                case '|':
                    return draft.openOther();
                case 'b':
                    return draft.putMark('b', draft.opCount);
                case 'u':
                    return draft.closeBack();
                case 'w':
                    return draft.openInside();
                case 'g':
                    return draft.closeBoth();
                case 'D':
                    return draft.openCounted();
                case 'L':
                    return draft.closeCounted();
                case 'l':
                    return draft.leaveCounted();
                default:
                    return compileOne(word);
            }
        }

        /** Does an immediate core word that opens and closes nothing, for the word that is being made. */
        private int compileOne(char word) {
            switch (word) {
                case 'i':
                    return draft.emit('w', 'i');
                case 'x':
                case 'X':
                    return draft.emit(word, 0);
                case 'v':
                    return draft.markRows > 0 ? MARKS_DIFFER : draft.emit('v', 0);
                case 'T':
                    return first.holds(1) ? draft.emit('n', first.take()) : STACK_SHORT;
                case 'P':
                    return postpone();
                default:
                    return finish();
            }
        }

        private int tick() {
            int newName = line.takeName();
            if (newName == NONE) {
                return NO_NAME;
            }
            int entry = dictionary.search(newName);
            if (entry == NONE) {
                return NOT_FOUND;
            }
            return draft.making && compiling ? draft.emit('n', entry) : first.put(entry);
        }

        private int postpone() {
            int sort = line.nextSort();
            if (sort != CORE && sort != NAME) {
                return NO_NAME;
            }
            int value = line.nextValue();
            line.place++;
            if (sort == CORE) {
                return draft.emit(IMMEDIATE.indexOf((char) value) >= 0 ? 'M' : 'q', value);
            }
            int entry = dictionary.search(value);
            if (!dictionary.has(entry)) {
                return NOT_FOUND;
            }
            return draft.emit(dictionary.immediates[entry] ? 'c' : 'p', entry);
        }

        private int finish() {
            if (draft.markRows > 0) {
                return MARKS_DIFFER;
            }
            int fault = dictionary.add(':', draft.name, draft.vocabulary, 0);
            if (fault != FINE) {
                return fault;
            }
            dictionary.takeOps(draft);
            draft.drop();
            compiling = false;
            return FINE;
        }

        /** Takes a marker and all later entries away. */
        private int forget(int marker) {
            if (draft.making || !dictionary.has(marker)) {
                return WOULD_GO;
            }
            for (int i = 0; i < level && i < LEVELS; i++) {
                if (running[i] >= marker) {
                    return WOULD_GO;
                }
            }
            used = dictionary.values[marker];
            dictionary.cut(marker);
            return FINE;
        }

        /** What is behind the op v of an entry becomes the doing part of the latest entry. */
        private int giveDoing(int entry, int start) {
            int latest = dictionary.size - 1;
            if (!dictionary.has(latest) || dictionary.kinds[latest] != 'c') {
                return NOT_CREATED;
            }
            dictionary.doingEntries[latest] = entry;
            dictionary.doingStarts[latest] = start;
            return FINE;
        }
    }

    /** Reads the words of the line, and runs entries with explicit frames. */
    private static final class FrameRunner {
        private final Machine machine;
        /** For each running word the entry whose ops run, NONE for a deferred one, and the next op. */
        private final int[] codes = new int[LEVELS];
        private final int[] places = new int[LEVELS];
        /** Whether a C waits at each level for what runs above it. */
        private final boolean[] waiting = new boolean[LEVELS + 1];

        private FrameRunner(Machine ran) {
            machine = ran;
        }

        private void abandon() {
            for (int level = 0; level <= LEVELS; level++) {
                waiting[level] = false;
            }
        }

        private int readWord() {
            int fault = machine.step();
            if (fault != FINE) {
                return fault;
            }
            int sort = machine.line.nextSort();
            int value = machine.line.nextValue();
            machine.line.place++;
            if (sort == NUMBER) {
                return machine.compiling ? machine.draft.emit('n', value) : machine.first.put(value);
            }
            return sort == NAME ? readName(value) : readCore((char) value);
        }

        private int readName(int sought) {
            int entry = machine.dictionary.search(sought);
            if (!machine.dictionary.has(entry)) {
                return NOT_FOUND;
            }
            if (machine.compiling && !machine.dictionary.immediates[entry]) {
                return machine.draft.emit('c', entry);
            }
            return begin(entry);
        }

        private int readCore(char core) {
            if (IMMEDIATE.indexOf(core) >= 0) {
                return machine.immediate(core);
            }
            if (machine.compiling) {
                return machine.draft.emit('w', core);
            }
            return doCore(core);
        }

        private int doCore(char core) {
            return core == 'e' || core == 'C' ? beginTaken(core == 'C') : machine.core(core);
        }

        /** Goes on, from what has been begun with a fault or without, until nothing runs any more. */
        private int drive(int begun) {
            int fault = begun == FINE ? FINE : catchFault(begun);
            for (int turn = 0; turn < TURNS && fault == FINE && machine.level > 0; turn++) {
                fault = oneTurn();
                if (fault != FINE) {
                    fault = catchFault(fault);
                }
            }
            return fault;
        }

        private int oneTurn() {
            int frame = machine.level - 1;
            if (frame < 0 || frame >= LEVELS) {
                return TOO_DEEP;
            }
            int code = codes[frame];
            int place = places[frame];
            if (!machine.dictionary.hasOp(code, place)) {
                return end();
            }
            int fault = machine.step();
            if (fault != FINE) {
                return fault;
            }
            places[frame] = place + 1;
            char kind = machine.dictionary.opKind(code, place);
            int number = machine.dictionary.opValue(code, place);
            switch (kind) {
                case 'c':
                    return begin(number);
                case 'X':
                    return begin(code);
                case 'x':
                    return end();
                case 'v':
                    fault = machine.giveDoing(code, place + 1);
                    return fault != FINE ? fault : end();
                case 'w':
                    return doCore((char) number);
                case 'M':
                    return machine.immediate((char) number);
                case 'j':
                case 'z':
                case 'L':
                case 'l':
                    fault = machine.jump(kind, number, place + 1);
                    places[frame] = machine.target;
                    return fault;
                default:
                    return machine.doOp(kind, number);
            }
        }

        /** Begins to run an entry; what runs no ops is done at once. */
        private int begin(int entry) {
            Dictionary dictionary = machine.dictionary;
            int next = entry;
            int fault;
            for (int turn = 0; turn <= LEVELS; turn++) {
                if (!dictionary.has(next)) {
                    return NOT_FOUND;
                }
                switch (dictionary.kinds[next]) {
                    case ':':
                        return openFrame(next, next, 0);
                    case 'c':
                        fault = machine.first.put(dictionary.values[next]);
                        if (fault != FINE || dictionary.doingEntries[next] == NONE) {
                            return fault;
                        }
                        return openFrame(next, dictionary.doingEntries[next], dictionary.doingStarts[next]);
                    case 'K':
                        return machine.first.put(dictionary.values[next]);
                    case 'm':
                        return machine.forget(next);
                    default:
                        if (!dictionary.has(dictionary.values[next])) {
                            return NOT_FOUND;
                        }
                        fault = openFrame(next, NONE, 0);
                        if (fault != FINE) {
                            return fault;
                        }
                        next = dictionary.values[next];
                }
            }
            return TOO_DEEP;
        }

        private int openFrame(int entry, int code, int place) {
            int fault = machine.open(entry);
            if (fault == FINE) {
                codes[machine.level - 1] = code;
                places[machine.level - 1] = place;
            }
            return fault;
        }

        /** Does e, or C if what is thrown is to be caught. */
        private int beginTaken(boolean caught) {
            if (!machine.first.holds(1)) {
                return STACK_SHORT;
            }
            int entry = machine.first.take();
            int level = machine.level;
            if (!caught || level < 0 || level > LEVELS) {
                return begin(entry);
            }
            machine.keepStacks();
            waiting[level] = true;
            int fault = begin(entry);
            if (fault != FINE || machine.level != level) {
                return fault;
            }
            waiting[level] = false;
            return machine.first.put(0);
        }

        private int end() {
            int fault = machine.close();
            int level = machine.level;
            if (fault != FINE || level < 0 || level > LEVELS || !waiting[level]) {
                return fault;
            }
            waiting[level] = false;
            return machine.first.put(0);
        }

        /** Gives a fault to the C that waits nearest, or answers it if there is none. */
        private int catchFault(int fault) {
            if (machine.exhausted) {
                return fault;
            }
            for (int level = Math.min(machine.level, LEVELS); level >= 0; level--) {
                if (waiting[level]) {
                    waiting[level] = false;
                    machine.level = level;
                    machine.bringStacksBack();
                    return machine.first.put(fault);
                }
            }
            return fault;
        }
    }

    /** Runs entries in the second way, by recursion; level is how many words are running. */
    private static final class RecursiveRunner {
        private final Machine machine;

        private RecursiveRunner(Machine ran) {
            machine = ran;
        }

        private int runEntry(int entry, int level) {
            Dictionary dictionary = machine.dictionary;
            if (!dictionary.has(entry)) {
                return NOT_FOUND;
            }
            switch (dictionary.kinds[entry]) {
                case ':':
                    return runWord(entry, entry, 0, level);
                case 'c':
                    int fault = machine.first.put(dictionary.values[entry]);
                    if (fault != FINE || dictionary.doingEntries[entry] == NONE) {
                        return fault;
                    }
                    return runWord(entry, dictionary.doingEntries[entry], dictionary.doingStarts[entry], level);
                case 'K':
                    return machine.first.put(dictionary.values[entry]);
                case 'm':
                    return machine.forget(entry);
                default:
                    return runDeferred(entry, level);
            }
        }

        private int runDeferred(int entry, int level) {
            int has = machine.dictionary.values[entry];
            if (!machine.dictionary.has(has)) {
                return NOT_FOUND;
            }
            int fault = level < LEVELS ? machine.open(entry) : TOO_DEEP;
            if (fault == FINE) {
                fault = runEntry(has, level + 1);
            }
            return fault != FINE ? fault : machine.close();
        }

        /** Runs an entry, the ops of which are those of the entry code from start on. */
        private int runWord(int entry, int code, int start, int level) {
            int fault = level < LEVELS ? machine.open(entry) : TOO_DEEP;
            int place = start;
            for (int turn = 0; turn < TURNS && fault == FINE && machine.dictionary.hasOp(code, place); turn++) {
                fault = machine.step();
                if (fault != FINE) {
                    return fault;
                }
                char kind = machine.dictionary.opKind(code, place);
                int number = machine.dictionary.opValue(code, place);
                place++;
                if (kind == 'x') {
                    return machine.close();
                }
                if (kind == 'v') {
                    fault = machine.giveDoing(code, place);
                    return fault != FINE ? fault : machine.close();
                }
                if (kind == 'j' || kind == 'z' || kind == 'L' || kind == 'l') {
                    fault = machine.jump(kind, number, place);
                    place = machine.target;
                } else {
                    fault = runOp(kind, kind == 'X' ? code : number, level + 1);
                }
            }
            return fault != FINE ? fault : machine.close();
        }

        private int runOp(char kind, int number, int level) {
            switch (kind) {
                case 'c':
                case 'X':
                    return runEntry(number, level);
                case 'w':
                    boolean runs = number == 'e' || number == 'C';
                    return runs ? runTaken(number == 'C', level) : machine.core((char) number);
                case 'M':
                    return machine.immediate((char) number);
                default:
                    return machine.doOp(kind, number);
            }
        }

        private int runTaken(boolean caught, int level) {
            if (!machine.first.holds(1)) {
                return STACK_SHORT;
            }
            int entry = machine.first.take();
            if (!caught) {
                return runEntry(entry, level);
            }
            machine.keepStacks();
            int fault = runEntry(entry, level);
            if (fault != FINE && !machine.exhausted) {
                machine.level = level;
                machine.bringStacksBack();
                return machine.first.put(fault);
            }
            return fault != FINE ? fault : machine.first.put(0);
        }
    }

    /** Whole numbers as large as heights become, for which a long is too small: a row of limbs each, lowest first. */
    private static final class Counts {
        /** An entry of 40 ops needs or gives at most some 80 times what others below do; 80 to the 30 has 190 bits. */
        private static final int LIMBS = 8;
        private static final long LIMB = 0xFFFFFFFFL;
        private final int[] limbs = new int[Effects.ROWS * LIMBS];

        private void set(int row, int n) {
            limbs[row * LIMBS] = n;
            for (int i = 1; i < LIMBS; i++) {
                limbs[row * LIMBS + i] = n < 0 ? -1 : 0;
            }
        }

        private int lowest(int row) {
            return limbs[row * LIMBS];
        }

        private void copy(int row, int from) {
            System.arraycopy(limbs, from * LIMBS, limbs, row * LIMBS, LIMBS);
        }

        private void add(int row, int added) {
            long carry = 0;
            for (int i = 0; i < LIMBS; i++) {
                carry += (limbs[row * LIMBS + i] & LIMB) + (limbs[added * LIMBS + i] & LIMB);
                limbs[row * LIMBS + i] = (int) carry;
                carry >>= 32;
            }
        }

        private void subtract(int row, int subtracted) {
            long carry = 0;
            for (int i = 0; i < LIMBS; i++) {
                carry += (limbs[row * LIMBS + i] & LIMB) - (limbs[subtracted * LIMBS + i] & LIMB);
                limbs[row * LIMBS + i] = (int) carry;
                carry >>= 32;
            }
        }

        private boolean isSame(int row, int other) {
            for (int i = 0; i < LIMBS; i++) {
                if (limbs[row * LIMBS + i] != limbs[other * LIMBS + i]) {
                    return false;
                }
            }
            return true;
        }

        private boolean isLess(int row, int other) {
            int highest = limbs[(row + 1) * LIMBS - 1];
            int otherHighest = limbs[(other + 1) * LIMBS - 1];
            if (highest != otherHighest) {
                return highest < otherHighest;
            }
            for (int i = LIMBS - 2; i >= 0; i--) {
                long limb = limbs[row * LIMBS + i] & LIMB;
                long otherLimb = limbs[other * LIMBS + i] & LIMB;
                if (limb != otherLimb) {
                    return limb < otherLimb;
                }
            }
            return false;
        }
    }

    /** Infers what entries need and give; entries lead to lower ones alone, so these are measured first. */
    private static final class Effects {
        /** The first rows of the counts tell for each entry what it needs, the next ones what it gives. */
        private static final int NEEDED = 0;
        private static final int GIVEN = NEEDED + ENTRIES;
        /** The height with which a way came to each op; the end stands behind the last one. */
        private static final int HEIGHTS = GIVEN + ENTRIES;
        /** The numbers 0 to 3: no op but one that runs an entry takes or gives more. */
        private static final int FEW = HEIGHTS + OPS + 1;
        /** What is needed so far, and the height behind the op that is passed. */
        private static final int NEED = FEW + 4;
        private static final int NEXT = NEED + 1;
        private static final int SPARE = NEXT + 1;
        private static final int ROWS = SPARE + 1;

        private final Dictionary dictionary;
        private final boolean[] known = new boolean[ENTRIES];
        private final Counts counts = new Counts();
        private final boolean[] reached = new boolean[OPS + 1];
        private final int[] ahead = new int[OPS + 1];
        private int aheadCount;
        private int opCount;
        /** The rows of what the op that is passed takes and gives. */
        private int takes;
        private int gives;

        private Effects(Dictionary measured) {
            dictionary = measured;
            for (int n = 0; n < NEED - FEW; n++) {
                counts.set(FEW + n, n);
            }
        }

        /** The answer that an int has room for; it wraps if the effect is larger. */
        private int told(int entry) {
            return 100 * counts.lowest(NEEDED + entry) + counts.lowest(GIVEN + entry);
        }

        private boolean tellsGrowth(int entry, int grown) {
            counts.set(SPARE, grown);
            counts.add(SPARE, NEEDED + entry);
            return counts.isSame(SPARE, GIVEN + entry);
        }

        private void measureThrough(int last) {
            for (int entry = 0; entry <= last && entry < dictionary.size; entry++) {
                known[entry] = measure(entry);
            }
        }

        private boolean measure(int entry) {
            int kind = dictionary.kinds[entry];
            if (kind == ':') {
                return follow(entry, entry, 0, 0);
            }
            if (kind == 'c' && dictionary.has(dictionary.doingEntries[entry])) {
                return follow(entry, dictionary.doingEntries[entry], dictionary.doingStarts[entry], 1);
            }
            counts.copy(NEEDED + entry, FEW);
            counts.copy(GIVEN + entry, FEW + 1);
            return kind == 'c' || kind == 'K';
        }

        /** Follows all ways through the ops of the entry code from start on, where the height is few. */
        private boolean follow(int entry, int code, int start, int few) {
            opCount = dictionary.opCounts[code];
            aheadCount = 0;
            for (int place = 0; place <= OPS; place++) {
                reached[place] = false;
            }
            counts.copy(NEED, FEW);
            counts.copy(NEXT, FEW + few);
            boolean even = reach(start);
            for (int turn = 0; turn <= OPS && even && aheadCount > 0; turn++) {
                aheadCount--;
                even = pass(entry, code, ahead[aheadCount]);
            }
            counts.copy(NEEDED + entry, NEED);
            counts.copy(GIVEN + entry, NEED);
            counts.add(GIVEN + entry, HEIGHTS + opCount);
            return even && reached[opCount];
        }

        /** Comes to an op, or the end, with the next height; false if a way came there with another one. */
        private boolean reach(int place) {
            if (place < 0 || place > opCount) {
                return false;
            }
            if (reached[place]) {
                return counts.isSame(HEIGHTS + place, NEXT);
            }
            reached[place] = true;
            counts.copy(HEIGHTS + place, NEXT);
            if (place < opCount && aheadCount <= OPS) {
                ahead[aheadCount] = place;
                aheadCount++;
            }
            return true;
        }

        /** Passes an op; false if it has no effect, or leads where the heights differ. */
        private boolean pass(int entry, int code, int place) {
            char kind = dictionary.opKind(code, place);
            int number = dictionary.opValue(code, place);
            if (!weigh(entry, kind, number)) {
                return false;
            }
            change(HEIGHTS + place);
            switch (kind) {
                case 'j':
                case 'l':
                    return reach(number);
                case 'z':
                case 'L':
                    return reach(place + 1) && reach(number);
                case 'x':
                    return reach(opCount);
                default:
                    return reach(place + 1);
            }
        }

        /** Tells what an op takes and gives; false if it has no effect. */
        private boolean weigh(int entry, char kind, int number) {
            takes = FEW;
            gives = FEW;
            switch (kind) {
                case 'n':
                    gives = FEW + 1;
                    return true;
                case 'w':
                    return weighCore((char) number);
                case 'c':
                    takes = NEEDED + number;
                    gives = GIVEN + number;
                    return number >= 0 && number < entry && known[number];
                case 'z':
                    takes = FEW + 1;
                    return true;
                case 'D':
                    takes = FEW + 2;
                    return true;
                case 'j':
                case 'L':
                case 'l':
                case 'x':
                    return true;
                default:
                    return false;
            }
        }

        private boolean weighCore(char word) {
            if (word == 'i') {
                gives = FEW + 1;
                return true;
            }
            int listed = PLAIN.indexOf(word);
            if (listed < 0 || GIVES.charAt(listed) == 'x') {
                return false;
            }
            takes = FEW + NEEDS.charAt(listed) - '0';
            gives = FEW + GIVES.charAt(listed) - '0';
            return true;
        }

        /** The need becomes what is taken from below the bottom, if that is more; then comes the next height. */
        private void change(int height) {
            counts.copy(SPARE, takes);
            counts.subtract(SPARE, height);
            if (counts.isLess(NEED, SPARE)) {
                counts.copy(NEED, SPARE);
            }
            counts.copy(NEXT, height);
            counts.subtract(NEXT, takes);
            counts.add(NEXT, gives);
        }
    }

    /** What entries are run with in both ways, each on a copy, to compare what comes of it. */
    private static final class SoundCheck {
        private final Machine framed = new Machine(CHECK_STEPS);
        private final FrameRunner frames = new FrameRunner(framed);
        private final Machine recursed = new Machine(CHECK_STEPS);
        private final RecursiveRunner recursion = new RecursiveRunner(recursed);

        private void prepare(Machine source) {
            framed.copyFrom(source);
            frames.abandon();
            recursed.copyFrom(source);
        }

        private boolean agrees(int fault, int recursionFault) {
            if (fault != FINE) {
                framed.abandon();
                recursed.abandon();
            }
            return fault == recursionFault && framed.isLike(recursed);
        }
    }
}
