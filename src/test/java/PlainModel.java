import java.math.BigInteger;
import java.util.ArrayList;
import java.util.HashMap;
import java.util.List;
import java.util.Map;

/**
 * The document once more, written for plainness: by recursion, with Java exceptions for what is thrown,
 * and with references instead of numbers. FuzzTest compares the class with it.
 */
final class PlainModel {
    static final String IMMEDIATE = "?~|buwgDLliXxvT['P;";
    static final long NO_EFFECT = Long.MIN_VALUE;
    private static final String NEEDS =
            "d1 p1 s2 o2 r3 +2 -2 *2 /2 %2 <2 =2 .1 {1 a1 ,1 @1 #2 e1 t1 C1 k1 W1 O1 K1";

    /** What is thrown; the end of the steps cannot be caught. */
    static final class Thrown extends RuntimeException {
        private static final long serialVersionUID = 1L;
        final int number;
        final boolean stepsEnded;

        Thrown(int number, boolean stepsEnded) {
            super(null, null, false, false);
            this.number = number;
            this.stepsEnded = stepsEnded;
        }
    }

    static final class Op {
        final char kind;
        int number;
        Op owner;

        Op(char kind, int number) {
            this.kind = kind;
            this.number = number;
        }
    }

    static final class Entry {
        int name;
        int vocabulary;
        char kind;
        boolean immediate;
        int value;
        List<Op> ops = new ArrayList<>();
        Entry has;
        Entry definer;
        int doingStart;
    }

    static final class Mark {
        final char kind;
        final int place;
        final Op op;

        Mark(char kind, int place, Op op) {
            this.kind = kind;
            this.place = place;
            this.op = op;
        }
    }

    static final class Word {
        final char sort;
        final int value;

        Word(char sort, int value) {
            this.sort = sort;
            this.value = value;
        }
    }

    static final class Frame {
        final Entry entry;
        final int base;

        Frame(Entry entry, int base) {
            this.entry = entry;
            this.base = base;
        }
    }

    final List<Integer> first = new ArrayList<>();
    final List<Integer> second = new ArrayList<>();
    final int[] cells = new int[100];
    int here;
    final List<Integer> outs = new ArrayList<>();
    final List<Entry> entries = new ArrayList<>();
    int newVocabulary;
    int searched;
    Entry making;
    List<Mark> marks = new ArrayList<>();
    boolean compiles;
    final List<Word> line = new ArrayList<>();
    int place;
    final List<Frame> frames = new ArrayList<>();
    int lineSteps;
    long steps;
    int lines;
    int errors;
    int error;
    final List<Integer> trail = new ArrayList<>();

    char enter() {
        lines++;
        lineSteps = 0;
        place = 0;
        error = 0;
        trail.clear();
        char answer = 'o';
        try {
            while (place < line.size()) {
                read();
            }
            answer = compiles ? 'c' : 'o';
        } catch (Thrown thrown) {
            answer = 'e';
            errors++;
            error = thrown.number;
            for (int i = frames.size() - 1; i >= 0 && error != -90; i--) {
                trail.add(entries.indexOf(frames.get(i).entry));
            }
            first.clear();
            second.clear();
            making = null;
            compiles = false;
        }
        frames.clear();
        line.clear();
        steps += lineSteps;
        return answer;
    }

    private void read() {
        step();
        Word word = line.get(place++);
        if (word.sort == 'n') {
            if (compiles) {
                compile('n', word.value);
            } else {
                push(word.value);
            }
        } else if (word.sort == 'w') {
            char core = (char) word.value;
            if (IMMEDIATE.indexOf(core) >= 0) {
                doImmediate(core);
            } else if (compiles) {
                compile('w', core);
            } else {
                doCore(core);
            }
        } else {
            Entry entry = found(word.value);
            if (compiles && !entry.immediate) {
                compile('c', entries.indexOf(entry));
            } else {
                run(entry);
            }
        }
    }

    private void step() {
        if (lineSteps == 1000) {
            throw new Thrown(-90, true);
        }
        lineSteps++;
    }

    private static Thrown error(int number) {
        return new Thrown(number, false);
    }

    private static void demand(boolean holds, int number) {
        if (!holds) {
            throw error(number);
        }
    }

    private void push(int n) {
        demand(first.size() < 40, -3);
        first.add(n);
    }

    private int pop() {
        demand(!first.isEmpty(), -4);
        return first.remove(first.size() - 1);
    }

    private void pushSecond(int n) {
        demand(second.size() < 40, -3);
        second.add(n);
    }

    private int popSecond() {
        return second.remove(second.size() - 1);
    }

    Entry sought(int name) {
        for (int vocabulary : new int[] {searched, 0}) {
            for (int i = entries.size() - 1; i >= 0; i--) {
                if (entries.get(i).name == name && entries.get(i).vocabulary == vocabulary) {
                    return entries.get(i);
                }
            }
        }
        return null;
    }

    private Entry found(int name) {
        Entry entry = sought(name);
        demand(entry != null, -13);
        return entry;
    }

    private int nextName() {
        demand(place < line.size() && line.get(place).sort == 'a', -16);
        return line.get(place++).value;
    }

    private Entry numbered(int number) {
        demand(number >= 0 && number < entries.size(), -13);
        return entries.get(number);
    }

    private Op compile(char kind, int number) {
        demand(making != null, -14);
        demand(making.ops.size() < 40, -8);
        Op op = new Op(kind, number);
        making.ops.add(op);
        return op;
    }

    private void newEntry(Entry entry) {
        demand(entries.size() < 30, -8);
        entries.add(entry);
    }

    private Entry fresh(char kind, int name) {
        Entry entry = new Entry();
        entry.kind = kind;
        entry.name = name;
        entry.vocabulary = newVocabulary;
        return entry;
    }

    private void run(Entry entry) {
        if (entry.kind == ':') {
            runOps(entry, entry, 0);
        } else if (entry.kind == 'K') {
            push(entry.value);
        } else if (entry.kind == 'c') {
            push(entry.value);
            if (entry.definer != null) {
                runOps(entry, entry.definer, entry.doingStart);
            }
        } else if (entry.kind == 'f') {
            demand(entry.has != null, -13);
            begin(entry);
            run(entry.has);
            end();
        } else {
            forget(entry);
        }
    }

    private void begin(Entry entry) {
        demand(frames.size() < 30, -5);
        frames.add(new Frame(entry, second.size()));
    }

    private void end() {
        demand(second.size() == frames.get(frames.size() - 1).base, -25);
        frames.remove(frames.size() - 1);
    }

    private void runOps(Entry entry, Entry body, int start) {
        begin(entry);
        int next = start;
        while (next < body.ops.size()) {
            step();
            Op op = body.ops.get(next++);
            if (op.kind == 'x') {
                break;
            }
            if (op.kind == 'v') {
                Entry latest = entries.get(entries.size() - 1);
                demand(latest.kind == 'c', -31);
                latest.definer = body;
                latest.doingStart = next;
                break;
            }
            next = after(op, body, next);
        }
        end();
    }

    /** Does an op, and tells which is next. */
    private int after(Op op, Entry body, int next) {
        switch (op.kind) {
            case 'n':
                push(op.number);
                return next;
            case 'w':
                doCore((char) op.number);
                return next;
            case 'c':
                run(entries.get(op.number));
                return next;
            case 'j':
                return op.number;
            case 'z':
                return pop() == 0 ? op.number : next;
            case 'D':
                demand(first.size() >= 2, -4);
                int index = pop();
                pushSecond(pop());
                pushSecond(index);
                return next;
            case 'L':
                demand(second.size() - base() >= 2, -6);
                int one = popSecond() + 1;
                int limit = popSecond();
                if (one == limit) {
                    return next;
                }
                second.add(limit);
                second.add(one);
                return op.number;
            case 'l':
                demand(second.size() - base() >= 2, -6);
                popSecond();
                popSecond();
                return op.number;
            case 'X':
                run(body);
                return next;
            case 'p':
                compile('c', op.number);
                return next;
            case 'q':
                compile('w', op.number);
                return next;
            case 'M':
                doImmediate((char) op.number);
                return next;
            default:
                throw new IllegalStateException("an op of the kind " + op.kind);
        }
    }

    private int base() {
        return frames.isEmpty() ? 0 : frames.get(frames.size() - 1).base;
    }

    private void forget(Entry marker) {
        demand(making == null, -31);
        int from = entries.indexOf(marker);
        for (Frame frame : frames) {
            demand(entries.indexOf(frame.entry) < from, -31);
            demand(frame.entry.definer == null || entries.indexOf(frame.entry.definer) < from, -31);
        }
        here = marker.value;
        while (entries.size() > from) {
            entries.remove(entries.size() - 1);
        }
        for (Entry entry : entries) {
            entry.has = entries.contains(entry.has) ? entry.has : null;
            entry.definer = entries.contains(entry.definer) ? entry.definer : null;
        }
    }

    private void doCore(char core) {
        int told = NEEDS.indexOf(core);
        if (told >= 0 && !Character.isDigit(core)) {
            demand(first.size() >= NEEDS.charAt(told + 1) - '0', -4);
        }
        if ("dpsor+-*/%<=".indexOf(core) >= 0) {
            doStack(core);
        } else if (".{}_iha,@#".indexOf(core) >= 0) {
            doMemory(core);
        } else if ("cKfm:k".indexOf(core) >= 0) {
            doNaming(core);
        } else {
            doOther(core);
        }
    }

    private void doStack(char core) {
        int c = pop();
        int b = "dp".indexOf(core) >= 0 ? 0 : pop();
        int a = core == 'r' ? pop() : 0;
        switch (core) {
            case 'd': push(c); push(c); break;
            case 'p': break;
            case 's': push(c); push(b); break;
            case 'o': push(b); push(c); push(b); break;
            case 'r': push(b); push(c); push(a); break;
            case '+': push(b + c); break;
            case '-': push(b - c); break;
            case '*': push(b * c); break;
            case '<': push(b < c ? -1 : 0); break;
            case '=': push(b == c ? -1 : 0); break;
            default:
                demand(c != 0, -10);
                long down = (long) Math.floor((double) b / (double) c);
                push(core == '/' ? (int) down : (int) (b - down * c));
        }
    }

    private void doMemory(char core) {
        int base = base();
        switch (core) {
            case '.':
                outs.add(pop());
                break;
            case '{':
                pushSecond(pop());
                break;
            case '}':
                demand(second.size() > base, -6);
                push(second.get(second.size() - 1));
                popSecond();
                break;
            case '_':
            case 'i':
                demand(second.size() > base, -6);
                push(second.get(second.size() - 1));
                break;
            case 'h':
                push(here);
                break;
            case 'a':
                long grown = (long) here + pop();
                demand(grown >= 0 && grown <= 100, -8);
                here = (int) grown;
                break;
            case ',':
                demand(here + 1 <= 100, -8);
                cells[here++] = pop();
                break;
            case '@':
                int from = pop();
                demand(from >= 0 && from < 100, -9);
                push(cells[from]);
                break;
            default:
                int to = pop();
                demand(to >= 0 && to < 100, -9);
                cells[to] = pop();
        }
    }

    private void doNaming(char core) {
        int name = nextName();
        if (core == ':') {
            demand(making == null, -29);
            making = fresh(':', name);
            marks = new ArrayList<>();
            compiles = true;
        } else if (core == 'k') {
            Entry deferred = found(name);
            demand(deferred.kind == 'f', -32);
            deferred.has = numbered(pop());
        } else {
            Entry entry = fresh(core, name);
            entry.value = core == 'K' ? pop() : here;
            newEntry(entry);
        }
    }

    private void doOther(char core) {
        switch (core) {
            case 'e':
                run(numbered(pop()));
                break;
            case 'C':
                doCatching(pop());
                break;
            case 't':
                int thrown = pop();
                demand(thrown == 0, thrown);
                break;
            case ']':
                compiles = true;
                break;
            case 'I':
                demand(!entries.isEmpty(), -13);
                entries.get(entries.size() - 1).immediate = true;
                break;
            default:
                int vocabulary = pop();
                demand(vocabulary == 0 || vocabulary == 1, -24);
                if (core == 'W') {
                    newVocabulary = vocabulary;
                } else {
                    searched = vocabulary;
                }
        }
    }

    private void doCatching(int number) {
        List<Integer> firstWas = new ArrayList<>(first);
        List<Integer> secondWas = new ArrayList<>(second);
        int framesWere = frames.size();
        int thrown = 0;
        try {
            run(numbered(number));
        } catch (Thrown caught) {
            if (caught.stepsEnded) {
                throw caught;
            }
            thrown = caught.number;
            first.clear();
            first.addAll(firstWas);
            second.clear();
            second.addAll(secondWas);
            while (frames.size() > framesWere) {
                frames.remove(frames.size() - 1);
            }
        }
        push(thrown);
    }

    private void doImmediate(char core) {
        if (core == '[') {
            compiles = false;
            return;
        }
        if (core == '\'') {
            int entry = entries.indexOf(found(nextName()));
            if (making != null && compiles) {
                compile('n', entry);
            } else {
                push(entry);
            }
            return;
        }
        demand(making != null, -14);
        if ("?~|buwgDLl".indexOf(core) >= 0) {
            doStructure(core);
        } else if (core == 'i') {
            compile('w', 'i');
        } else if (core == 'x' || core == 'X') {
            compile(core, 0);
        } else if (core == 'v') {
            demand(marks.isEmpty(), -22);
            compile('v', 0);
        } else if (core == 'T') {
            demand(!first.isEmpty(), -4);
            compile('n', pop());
        } else if (core == 'P') {
            doPostponing();
        } else {
            demand(marks.isEmpty(), -22);
            newEntry(making);
            making = null;
            compiles = false;
        }
    }

    private void doPostponing() {
        demand(place < line.size() && line.get(place).sort != 'n', -16);
        Word word = line.get(place++);
        if (word.sort == 'w') {
            compile(IMMEDIATE.indexOf((char) word.value) >= 0 ? 'M' : 'q', word.value);
        } else {
            Entry entry = found(word.value);
            compile(entry.immediate ? 'c' : 'p', entries.indexOf(entry));
        }
    }

    private Mark top(char kind) {
        demand(!marks.isEmpty() && marks.get(marks.size() - 1).kind == kind, -22);
        return marks.get(marks.size() - 1);
    }

    private void unmark() {
        marks.remove(marks.size() - 1);
    }

    private int size() {
        return making.ops.size();
    }

    private void doStructure(char core) {
        Mark mark;
        Op op;
        switch (core) {
            case '?':
                op = compile('z', 0);
                marks.add(new Mark('i', size(), op));
                break;
            case '~':
                top('i').op.number = size();
                unmark();
                break;
            case '|':
                mark = top('i');
                op = compile('j', 0);
                mark.op.number = size();
                unmark();
                marks.add(new Mark('i', size(), op));
                break;
            case 'b':
                marks.add(new Mark('b', size(), null));
                break;
            case 'u':
                compile('z', top('b').place);
                unmark();
                break;
            case 'w':
                mark = top('b');
                op = compile('z', 0);
                marks.add(marks.size() - 1, new Mark('i', size(), op));
                break;
            case 'g':
                mark = top('b');
                demand(marks.size() > 1 && marks.get(marks.size() - 2).kind == 'i', -22);
                compile('j', mark.place);
                unmark();
                top('i').op.number = size();
                unmark();
                break;
            case 'D':
                op = compile('D', 0);
                marks.add(new Mark('D', size(), op));
                break;
            case 'L':
                mark = top('D');
                compile('L', mark.place);
                unmark();
                for (Op leaving : making.ops) {
                    if (leaving.kind == 'l' && leaving.owner == mark.op) {
                        leaving.number = size();
                    }
                }
                break;
            default:
                mark = null;
                for (Mark any : marks) {
                    mark = any.kind == 'D' ? any : mark;
                }
                demand(mark != null, -22);
                compile('l', 0).owner = mark.op;
        }
    }

    /** The effect of an entry, wrapped to an int, or NO_EFFECT. */
    long effect(Entry entry) {
        BigInteger[] found = effect(entry, new HashMap<>());
        return found == null ? NO_EFFECT : found[0].multiply(BigInteger.valueOf(100)).add(found[1]).intValue();
    }

    private BigInteger[] effect(Entry entry, Map<Entry, BigInteger[]> known) {
        if (known.containsKey(entry)) {
            return known.get(entry);
        }
        BigInteger[] found = null;
        if (entry.kind == 'K' || entry.kind == 'c' && entry.definer == null) {
            found = few(0, 1);
        } else if (entry.kind == 'c') {
            found = ways(entry.definer, entry.doingStart, BigInteger.ONE, known);
        } else if (entry.kind == ':') {
            found = ways(entry, 0, BigInteger.ZERO, known);
        }
        known.put(entry, found);
        return found;
    }

    private static BigInteger[] few(int taken, int given) {
        return new BigInteger[] {BigInteger.valueOf(taken), BigInteger.valueOf(given)};
    }

    /** Goes all ways through the ops until nothing is new; needs and gives, or null. */
    private BigInteger[] ways(Entry body, int start, BigInteger height, Map<Entry, BigInteger[]> known) {
        BigInteger[] heights = new BigInteger[body.ops.size() + 1];
        heights[start] = height;
        BigInteger need = BigInteger.ZERO;
        for (int round = 0; round <= body.ops.size(); round++) {
            for (int at = 0; at < body.ops.size(); at++) {
                if (heights[at] == null) {
                    continue;
                }
                Op op = body.ops.get(at);
                BigInteger[] change = change(op, known);
                if (change == null) {
                    return null;
                }
                need = need.max(change[0].subtract(heights[at]));
                BigInteger then = heights[at].subtract(change[0]).add(change[1]);
                for (int next : nexts(op, at, body.ops.size())) {
                    if (heights[next] != null && !heights[next].equals(then)) {
                        return null;
                    }
                    heights[next] = then;
                }
            }
        }
        BigInteger end = heights[body.ops.size()];
        return end == null ? null : new BigInteger[] {need, need.add(end)};
    }

    private static int[] nexts(Op op, int at, int end) {
        switch (op.kind) {
            case 'j':
            case 'l':
                return new int[] {op.number};
            case 'z':
            case 'L':
                return new int[] {op.number, at + 1};
            case 'x':
                return new int[] {end};
            default:
                return new int[] {at + 1};
        }
    }

    private BigInteger[] change(Op op, Map<Entry, BigInteger[]> known) {
        switch (op.kind) {
            case 'n':
                return few(0, 1);
            case 'c':
                return effect(entries.get(op.number), known);
            case 'z':
                return few(1, 0);
            case 'D':
                return few(2, 0);
            case 'j':
            case 'l':
            case 'L':
            case 'x':
                return few(0, 0);
            case 'w':
                return coreChange((char) op.number);
            default:
                return null;
        }
    }

    private static BigInteger[] coreChange(char core) {
        String[] changes = {"d12", "p10", "s22", "o23", "r33", "+21", "-21", "*21", "/21", "%21", "<21", "=21", ".10",
            "{10", "}01", "_01", "i01", "h01", "a10", ",10", "@11", "#20", "t10", "I00", "W10", "O10"};
        for (String change : changes) {
            if (change.charAt(0) == core) {
                return few(change.charAt(1) - '0', change.charAt(2) - '0');
            }
        }
        return null;
    }
}
