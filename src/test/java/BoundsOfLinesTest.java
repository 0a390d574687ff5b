import java.util.NoSuchElementException;

/** The sentences about lines that name a boundary, each on both sides of it; promises 1 to 8 and 27 to 30. */
public final class BoundsOfLinesTest {
    private static final Bench BENCH = new Bench();
    private static final String CORE = "dpsor+-*/%<=.{}_ha,@#etC]IkWOcKfm:?~|buwgDLliXxvT['P;";
    private static final int[] FAR = {Integer.MIN_VALUE, Integer.MIN_VALUE + 1, -100, Integer.MAX_VALUE - 1,
        Integer.MAX_VALUE};

    public static void main(String[] args) {
        fortyWords();
        refusedWordsAreNotPut();
        firstDocumentedException();
        everyCharacter();
        sixteenNames();
        everyNumber();
        theLineIsEmptyThen();
        namesThatAreNone();
        namesNotTaken();
        namesNotTakenWithinOthers();
        notFoundNamesAreTaken();
        doneOrCompiled();
        notCompiledWithoutAWord();
        anErrorEndsTheLine();
        allElseStays();
        errorOfTheLastLine();
        traceOfTheLastLine();
        traceIndexes();
        traceOfTheEndOfSteps();
        entriesAsTheyWereThen();
        lineCounts();
        shareOfErrors();
        meanOfSteps();
        stepsOfLines();
        BENCH.close("BoundsOfLinesTest");
    }

    private static WordFoundry withWords(int count) {
        WordFoundry x = new WordFoundry();
        for (int i = 1; i <= count; i++) {
            BENCH.same("a number of the line", x.number(i), i);
        }
        return x;
    }

    private static void fortyWords() {
        BENCH.about("A line has at most 40 words");
        for (int count : new int[] {0, 1, 38, 39}) {
            BENCH.same("word behind " + count, withWords(count).word('d'), count + 1);
            BENCH.same("name behind " + count, withWords(count).name(0), count + 1);
            BENCH.same("number behind " + count, withWords(count).number(0), count + 1);
        }
        WordFoundry x = withWords(40);
        BENCH.fails("word behind 40", IllegalStateException.class, () -> x.word('d'));
        BENCH.fails("name behind 40", IllegalStateException.class, () -> x.name(0));
        BENCH.fails("number behind 40", IllegalStateException.class, () -> x.number(0));
        for (char core : new char[] {'d', 'i'}) {
            WordFoundry y = new WordFoundry();
            for (int i = 1; i <= 40; i++) {
                BENCH.same("a core word of the line", y.word(core), i);
            }
            BENCH.fails("the 41st core word", IllegalStateException.class, () -> y.word(core));
        }
        WordFoundry z = new WordFoundry();
        for (int i = 1; i <= 40; i++) {
            BENCH.same("a name of the line", z.name(15), i);
        }
        BENCH.fails("the 41st name", IllegalStateException.class, () -> z.name(15));
    }

    private static void refusedWordsAreNotPut() {
        BENCH.about("A method that throws an exception changes nothing");
        WordFoundry x = withWords(39);
        BENCH.fails("word", IllegalArgumentException.class, () -> x.word('!'));
        BENCH.fails("name", IllegalArgumentException.class, () -> x.name(16));
        BENCH.same("the 40th word", x.number(40), 40);
        BENCH.fails("word", IllegalStateException.class, () -> x.word('p'));
        BENCH.fails("name", IllegalStateException.class, () -> x.name(0));
        BENCH.fails("number", IllegalStateException.class, () -> x.number(41));
        BENCH.same("the line that is full", x.enter(), 'o');
        BENCH.same("steps", x.steps(), 40);
        BENCH.same("depth", x.depth(), 40);
        BENCH.same("the latest number", x.at(0), 40);
        BENCH.same("the first number", x.at(39), 1);
        BENCH.same("the first word of the next line", x.word('p'), 1);
    }

    private static void firstDocumentedException() {
        BENCH.about("If several exceptions apply, the one that is documented first is thrown");
        WordFoundry x = withWords(40);
        for (char core : new char[] {0, '!', 'A', (char) 233, 65535}) {
            BENCH.fails("word " + (int) core, IllegalArgumentException.class, () -> x.word(core));
        }
        for (int name : new int[] {-1, 16, Integer.MIN_VALUE, Integer.MAX_VALUE}) {
            BENCH.fails("name " + name, IllegalArgumentException.class, () -> x.name(name));
            BENCH.fails("find " + name, IllegalArgumentException.class, () -> x.find(name));
        }
        BENCH.fails("find 0", NoSuchElementException.class, () -> x.find(0));
    }

    private static void everyCharacter() {
        BENCH.about("word: IllegalArgumentException if there is no such core word");
        WordFoundry x = null;
        int known = 0;
        for (int sign = 0; sign < 65536; sign++) {
            if (sign % 30 == 0) {
                x = new WordFoundry();
            }
            boolean put = puts(x, (char) sign);
            known += put ? 1 : 0;
            if (put != CORE.indexOf((char) sign) >= 0) {
                BENCH.same("whether " + sign + " is a core word", put, !put);
            }
        }
        BENCH.same("core words", known, 53);
    }

    private static boolean puts(WordFoundry x, char core) {
        try {
            x.word(core);
            return true;
        } catch (IllegalArgumentException e) {
            return false;
        }
    }

    private static void sixteenNames() {
        BENCH.about("names from 0 to 15");
        WordFoundry x = new WordFoundry();
        for (int name = 0; name < 16; name++) {
            WordFoundry y = new WordFoundry();
            BENCH.same("name " + name, y.name(name), 1);
            WordFoundry z = Bench.told("c $" + name);
            BENCH.same("the name of the entry", z.nameOf(0), name);
            BENCH.same("find " + name, z.find(name), 0);
        }
        for (int name : new int[] {-1, -2, 16, 17, 256, Integer.MIN_VALUE, Integer.MIN_VALUE + 15, Integer.MAX_VALUE}) {
            BENCH.fails("name " + name, IllegalArgumentException.class, () -> x.name(name));
        }
        BENCH.same("nothing was put", x.name(0), 1);
    }

    private static void everyNumber() {
        BENCH.about("number: Puts a number behind the line");
        for (int n : new int[] {Integer.MIN_VALUE, -1, 0, 1, 15, 16, 40, 41, 58, 59, 65535, Integer.MAX_VALUE}) {
            WordFoundry x = new WordFoundry();
            BENCH.same("number " + n, x.number(n), 1);
            BENCH.same("enter", x.enter(), 'o');
            BENCH.same("the number on the stack", x.at(0), n);
        }
    }

    private static void theLineIsEmptyThen() {
        BENCH.about("enter: Enters the line, which is empty then");
        WordFoundry x = new WordFoundry();
        BENCH.same("the empty line", x.enter(), 'o');
        Bench.put(x, "1 2");
        BENCH.same("a line that is done", x.enter(), 'o');
        BENCH.same("the first word", x.number(1), 1);
        BENCH.same("the second word", x.word('p'), 2);
        BENCH.same("a line behind it", x.enter(), 'o');
        Bench.put(x, ": $0");
        BENCH.same("a line that compiles", x.enter(), 'c');
        BENCH.same("the first word", x.number(1), 1);
        Bench.put(x, "~ 5 5");
        BENCH.same("a line with an error", x.enter(), 'e');
        BENCH.same("the first word", x.number(1), 1);
        BENCH.same("the words behind the error are gone", x.enter(), 'o');
        BENCH.same("the stack", Bench.stack(x), "1");
        Bench.put(x, Bench.times(39, "h") + " }");
        BENCH.same("a full line with an error", x.enter(), 'e');
        BENCH.same("the first word", x.number(1), 1);
    }

    private static void namesThatAreNone() {
        BENCH.about("error -16 if that is no name, or there is none");
        for (String word : new String[] {"c", "1 K", "f", "m", ":", "0 k", "'"}) {
            for (String next : new String[] {"", " 0", " 15", " -1", " d", " :", " ;", " ["}) {
                BENCH.breaks(Bench.told("f $0"), word + next, -16, "");
            }
            for (String next : new String[] {" $0", " $15"}) {
                BENCH.same(word + next, Bench.enter(Bench.told("f $0 f $15"), word + next) == 'e', false);
            }
        }
        for (String next : new String[] {"", " 0", " 15", " -1"}) {
            BENCH.breaks(Bench.told("f $0", ": $1"), "P" + next, -16, "");
        }
        for (String next : new String[] {" $0", " d", " ;"}) {
            BENCH.same("P" + next, Bench.enter(Bench.told("f $0", ": $1"), "P" + next), 'c');
        }
    }

    private static void namesNotTaken() {
        BENCH.about("error -16 .., and it is not taken then");
        for (String word : new String[] {"c", "K", "f", "m", ":", "k"}) {
            WordFoundry x = Bench.told(": $0 " + word + " ;");
            BENCH.leaves(x, "3 ' $0 C 7", "3 -16 7");
            BENCH.leaves(x, "p p ' $0 C h", "3 -16 0");
            BENCH.leaves(x, "p p ' $0 C", "3 -16");
            BENCH.same("entries", x.entries(), 1);
            BENCH.same("making", x.isMaking(), false);
        }
        WordFoundry y = Bench.told(": $0 P ' ; : $1 P P ;", ": $2 [");
        BENCH.leaves(y, "' $0 C 7", "-16 7");
        BENCH.leaves(y, "' $0 C h", "-16 7 -16 0");
        BENCH.leaves(y, "p p p ' $1 C 8", "-16 -16 8");
        BENCH.leaves(y, "' $1 C", "-16 -16 8 -16");
        Bench.enter(y, "] ;");
        BENCH.same("nothing was compiled", y.ops(2), 0);
    }

    private static void namesNotTakenWithinOthers() {
        BENCH.about("some words take the next word of the line as their name, also as they run within others");
        WordFoundry x = Bench.told(": $0 c ; : $1 $0 ; : $2 5 K ; : $3 ' $2 e ;");
        BENCH.same("two names", Bench.enter(x, "$1 $8 $3 $9"), 'o');
        BENCH.same("kind", x.kindOf(4), 'c');
        BENCH.same("name", x.nameOf(4), 8);
        BENCH.same("kind", x.kindOf(5), 'K');
        BENCH.same("name", x.nameOf(5), 9);
        BENCH.breaks(x, "$1 1", -16, "0 1");
        BENCH.breaks(x, "$1", -16, "0 1");
        BENCH.breaks(x, "$3", -16, "2 3");
        x = Bench.told(": $0 : ;");
        BENCH.same("a word begun by a word", Bench.enter(x, "$0 $1 5 ; $1"), 'o');
        BENCH.same("stack", Bench.stack(x), "5");
        x = Bench.told(": $0 c c ;");
        BENCH.breaks(x, "$0 $1", -16, "0");
        BENCH.same("the first name was taken", x.entries(), 2);
        BENCH.same("two names of one word", Bench.enter(x, "$0 $2 $3"), 'o');
        BENCH.same("entries", x.entries(), 4);
    }

    private static void notFoundNamesAreTaken() {
        BENCH.about("a name that is not found was taken");
        WordFoundry x = Bench.told(": $0 P ' ; : $1 k ; : $2 P P ;");
        BENCH.leaves(x, "' $0 C $9 7", "-13 7");
        BENCH.leaves(x, "' $0 C $2", "-13 7 2 0");
        Bench.enter(x, "p p p p");
        BENCH.leaves(x, "1 ' $1 C $9 7", "1 -13 7");
        BENCH.leaves(x, "p p ' $1 C $1 7", "1 -32 7");
        BENCH.same("making", Bench.enter(x, "p p p : $3 ["), 'o');
        BENCH.leaves(x, "' $2 C $9 7", "-13 7");
        BENCH.leaves(x, "' $2 C $2 ]", "-13 7 0");
        BENCH.same("the end", Bench.enter(x, ";"), 'o');
        BENCH.same("ops", Bench.ops(x, 3), "p2");
    }

    private static void doneOrCompiled() {
        BENCH.about("A word is done if the system interprets, or if it is immediate; else it is compiled");
        WordFoundry x = Bench.told("9 K $0 : $1 8 . ; I");
        BENCH.leaves(x, "5 d $0 $1", "5 5 9");
        BENCH.same("done at once", Bench.outs(x), "8");
        BENCH.same("compiled", Bench.enter(x, ": $2 5 d $0 $1"), 'c');
        BENCH.same("the immediate one was done", Bench.outs(x), "8 8");
        BENCH.same("nothing else was", Bench.stack(x), "5 5 9");
        BENCH.leaves(x, "[ 6 $0 ]", "5 5 9 6 9");
        BENCH.same("the end", Bench.enter(x, ";"), 'o');
        BENCH.same("ops", Bench.ops(x, 2), "n5 wd c0");
        BENCH.leaves(x, "p p p p p $2", "5 5 9");
    }

    private static void notCompiledWithoutAWord() {
        BENCH.about("put behind the ops of the word that is being made, error -14 without one");
        for (String word : new String[] {"1", "d", "h", "$0", "e", ":", "]", "c", "I", "p"}) {
            BENCH.breaks(Bench.told("c $0", "]"), word, -14, "");
            BENCH.same(word + " with one", Bench.enter(Bench.told("c $0", ": $1"), word), 'c');
        }
        BENCH.breaks(Bench.told("c $0", "]"), "$1", -13, "");
        BENCH.same("an immediate entry is done", Bench.enter(Bench.told("c $0 I", "]"), "$0 ["), 'o');
    }

    private static void anErrorEndsTheLine() {
        BENCH.about("An error ends a line; both stacks are empty then, the word that is being made is gone, "
            + "and the system interprets");
        WordFoundry x = Bench.told("1 2 { { 3", ": $0 5 ?");
        BENCH.same("depth before", x.depth(), 1);
        BENCH.same("second before", x.second(), 2);
        BENCH.same("making before", x.isMaking(), true);
        BENCH.breaks(x, "; 7 . 8 .", -22, "");
        BENCH.same("outs", x.outs(), 0);
        BENCH.same("second", x.second(), 0);
        BENCH.same("no entry", x.entries(), 0);
        BENCH.same("the system interprets", Bench.enter(x, "4"), 'o');
        BENCH.breaks(x, "~", -14, "");
        BENCH.breaks(x, "] 1", -14, "");
        BENCH.same("the system interprets", Bench.enter(x, "4 d"), 'o');
        BENCH.same("an error in the last word", Bench.enter(x, "7 . 0 t 5 t"), 'e');
        BENCH.same("what stands ahead of it was done", Bench.outs(x), "7");
        BENCH.same("no marks stay", Bench.enter(x, ": $1 ;"), 'o');
        BENCH.same("no ops stay", x.ops(0), 0);
    }

    private static void allElseStays() {
        BENCH.about("An error ends a line; .. all else stays");
        WordFoundry x = Bench.told("7 , 8 50 # 9 . 1 W 1 O f $0 5 K $1 0 k $0 I", "1 k $0");
        BENCH.breaks(x, "6 . 5 t", 5, "");
        BENCH.same("here", x.here(), 1);
        BENCH.same("cell 0", x.cell(0), 7);
        BENCH.same("cell 50", x.cell(50), 8);
        BENCH.same("outs", Bench.outs(x), "9 6");
        BENCH.same("entries", x.entries(), 2);
        BENCH.same("immediate", x.isImmediate(1), true);
        BENCH.same("found in the vocabulary 1", x.find(0), 0);
        BENCH.leaves(x, "$0 c $2", "5");
        BENCH.same("the vocabulary for new entries", x.vocabularyOf(2), 1);
    }

    private static void errorOfTheLastLine() {
        BENCH.about("error: NoSuchElementException if there was none");
        WordFoundry x = new WordFoundry();
        BENCH.fails("error of no line", NoSuchElementException.class, () -> x.error());
        x.enter();
        BENCH.fails("error of the empty line", NoSuchElementException.class, () -> x.error());
        for (int thrown : new int[] {1, -1, -10, 77, Integer.MIN_VALUE, Integer.MAX_VALUE}) {
            BENCH.breaks(x, thrown + " t", thrown, "");
            Bench.put(x, "1");
            BENCH.same("as a line is told", x.error(), thrown);
            BENCH.same("enter", x.enter(), 'o');
            BENCH.fails("error behind it", NoSuchElementException.class, () -> x.error());
        }
        Bench.enter(x, ": $0 5 t ; ' $0 C");
        BENCH.fails("an error that is caught", NoSuchElementException.class, () -> x.error());
        BENCH.breaks(x, "' $0 e", 5, "0");
        Bench.enter(x, ": $1");
        BENCH.fails("error of a line that compiles", NoSuchElementException.class, () -> x.error());
    }

    private static void traceOfTheLastLine() {
        BENCH.about("trace: how many entries were running, 0 without an error");
        WordFoundry x = new WordFoundry();
        BENCH.same("trace of no line", x.trace(), 0);
        Bench.enter(x, ": $0 5 t ; : $1 $0 ; : $2 d ? 1 - X ~ 0 / ;");
        BENCH.breaks(x, "5 t", 5, "");
        BENCH.breaks(x, "$0", 5, "0");
        BENCH.breaks(x, "$1", 5, "0 1");
        Bench.enter(x, "' $1 C");
        BENCH.same("trace of a line without an error", x.trace(), 0);
        BENCH.breaks(x, "1 28 $2", -10, Bench.times(29, "2"));
        BENCH.breaks(x, "1 29 $2", -10, Bench.times(30, "2"));
        BENCH.breaks(x, "1 30 $2", -5, Bench.times(30, "2"));
        x.enter();
        BENCH.same("trace of the empty line", x.trace(), 0);
    }

    private static void traceIndexes() {
        BENCH.about("traceAt: from 0 for the innermost one; IndexOutOfBoundsException if there is no such one");
        WordFoundry x = new WordFoundry();
        BENCH.fails("traceAt 0 of no line", IndexOutOfBoundsException.class, () -> x.traceAt(0));
        Bench.enter(x, ": $0 d ? 1 - X ~ 0 / ; : $1 $0 ;");
        for (int words = 0; words <= 29; words++) {
            Bench.enter(x, "1 " + (words - 1) + (words == 0 ? " 0 /" : " $1"));
            int running = words == 0 ? 0 : words + 1;
            BENCH.same("trace", x.trace(), running);
            if (running > 0) {
                BENCH.same("the innermost one", x.traceAt(0), 0);
                BENCH.same("the one below the last", x.traceAt(running - 2), 0);
                BENCH.same("the last one", x.traceAt(running - 1), 1);
            }
            BENCH.fails("traceAt -1", IndexOutOfBoundsException.class, () -> x.traceAt(-1));
            BENCH.fails("traceAt " + running, IndexOutOfBoundsException.class, () -> x.traceAt(running));
        }
        for (int index : FAR) {
            BENCH.fails("traceAt " + index, IndexOutOfBoundsException.class, () -> x.traceAt(index));
        }
        x.enter();
        BENCH.fails("traceAt 0 behind it", IndexOutOfBoundsException.class, () -> x.traceAt(0));
    }

    private static void traceOfTheEndOfSteps() {
        BENCH.about("trace: 0 without an error and for -90");
        WordFoundry x = Bench.told(": $0 b 0 u ; : $1 $0 ; : $2 -90 t ; : $3 -91 t ; : $4 -89 t ;");
        BENCH.breaks(x, "$1", -90, "");
        BENCH.fails("traceAt 0", IndexOutOfBoundsException.class, () -> x.traceAt(0));
        BENCH.breaks(x, "$2", -90, "");
        BENCH.breaks(x, "$3", -91, "3");
        BENCH.breaks(x, "$4", -89, "4");
    }

    private static void entriesAsTheyWereThen() {
        BENCH.about("traceAt: the number of the entry, as it was then");
        WordFoundry x = Bench.told("m $0 : $1 5 t ; : $2 $1 ;");
        BENCH.breaks(x, "$2", 5, "1 2");
        Bench.put(x, "$0");
        BENCH.same("trace as a line is told", Bench.trail(x), "1 2");
        x = Bench.told(": $0 5 t ; : $0 $0 ;");
        BENCH.breaks(x, "$0", 5, "0 1");
        Bench.put(x, "c $0");
        BENCH.same("trace as a line is told", Bench.trail(x), "0 1");
    }

    private static void lineCounts() {
        BENCH.about("lines: how many lines were entered");
        WordFoundry x = new WordFoundry();
        BENCH.same("lines", x.lines(), 0);
        Bench.put(x, "1 2");
        BENCH.same("a line that is not entered", x.lines(), 0);
        String[] lines = {"", "", "1", "+ + +", ": $0", "", ";", "$9"};
        x.enter();
        for (int i = 0; i < lines.length; i++) {
            BENCH.same("lines", x.lines(), i + 1);
            Bench.enter(x, lines[i]);
        }
        BENCH.same("lines", x.lines(), lines.length + 1);
    }

    private static void shareOfErrors() {
        BENCH.about("errorShare: ArithmeticException if there were none");
        WordFoundry x = new WordFoundry();
        BENCH.fails("errorShare", ArithmeticException.class, () -> x.errorShare());
        Bench.put(x, "p");
        BENCH.fails("errorShare of a line that is not entered", ArithmeticException.class, () -> x.errorShare());
        x.enter();
        BENCH.same("errorShare of an error alone", x.errorShare(), 1.0f);
        x.enter();
        BENCH.same("errorShare", x.errorShare(), 0.5f);
        Bench.enter(x, "' $0 C : $1");
        BENCH.same("errorShare", x.errorShare(), 2f / 3f);
        WordFoundry y = new WordFoundry();
        y.enter();
        BENCH.same("errorShare without an error", y.errorShare(), 0.0f);
        Bench.enter(y, ": $0 5 t ; ' $0 C");
        BENCH.same("an error that is caught does not count", y.errorShare(), 0.0f);
        Bench.enter(y, ": $1 b 0 u ; $1");
        BENCH.same("-90 counts", y.errorShare(), 1f / 3f);
    }

    private static void meanOfSteps() {
        BENCH.about("meanSteps: ArithmeticException if there were none");
        WordFoundry x = new WordFoundry();
        BENCH.fails("meanSteps", ArithmeticException.class, () -> x.meanSteps());
        Bench.put(x, "1 2");
        BENCH.fails("meanSteps of a line that is not entered", ArithmeticException.class, () -> x.meanSteps());
        x.enter();
        BENCH.same("meanSteps", x.meanSteps(), 2.0);
        x.enter();
        BENCH.same("meanSteps", x.meanSteps(), 1.0);
        x.enter();
        BENCH.same("meanSteps", x.meanSteps(), 2.0 / 3.0);
        WordFoundry y = new WordFoundry();
        y.enter();
        BENCH.same("meanSteps of the empty line", y.meanSteps(), 0.0);
    }

    private static void stepsOfLines() {
        BENCH.about("A step is each word of a line that is done or compiled, and each op");
        String[] lines = {"", "1", "1 d", "c $0", ": $1 ;", ": $2 1 d ;", "' $2", "1 K $3", "f $4 ' $3 k $4", "$4", "$2",
            ": $5 x 1 1 ;", "$5", ": $6 ? 1 ~ ;", "0 $6", "1 $6", "' $2 e", "' $2 C", ": $7 P d P ? P $0 ;", "$3 $0",
            "5 t 6", ": $8 D L ;", "2 1 $8", "3 1 $8", "1 0 /", "] 5", "'", "' $9"};
        int[] due = {0, 1, 2, 1, 2, 4, 1, 2, 3, 1, 3, 5, 2, 5, 3, 4, 4, 4, 5, 2, 2, 4, 5, 6, 3, 2, 1, 1};
        WordFoundry x = new WordFoundry();
        for (int i = 0; i < lines.length; i++) {
            long before = x.steps();
            Bench.enter(x, lines[i]);
            BENCH.same("steps of \"" + lines[i] + "\"", x.steps() - before, due[i]);
        }
    }
}
