/** The sentences about immediate core words and ops that name a boundary, on both sides of it; promises 22 to 24. */
public final class BoundsOfCompilingTest {
    private static final Bench BENCH = new Bench();
    private static final int MOST_OPS = 40;
    private static final String[] NEED_MAKING = {"?", "~", "|", "b", "u", "w", "g", "D", "L", "l", "i", "x", "X", "v",
        "T", "P d", ";"};
    /** What opens the marks that each word needs, the word, and what closes then what is left open. */
    private static final String[][] MARKED = {{"?", "~", ""}, {"?", "|", "~"}, {"b", "u", ""}, {"b", "w", "u ~"},
        {"b w", "g", ""}, {"D", "L", ""}, {"D", "l", "L"}};

    public static void main(String[] args) {
        makingIsNeeded();
        makingIsLookedAtFirst();
        marksOfTheKind();
        marksThatAreNone();
        theNextMarkToo();
        aDoAnywhere();
        errorsTakeNoMark();
        fullWordsTakeNoMark();
        fullWordsPutNoMark();
        jumpsLeadBehindTheLatestOp();
        jumpsThatLeadNowhereYet();
        marksBelowMarks();
        manyMarksOfOneKind();
        leavingLoops();
        doingPartsNeedNoMarks();
        numberFromTheStack();
        stateOfTick();
        tickErrors();
        postponedWords();
        postponedWithoutAWord();
        endNeedsNoMarks();
        endInterprets();
        fortyOps();
        fortyOpsByEachWord();
        fortyOpsByWordsThatRun();
        numbersOfOps();
        BENCH.close("BoundsOfCompilingTest");
    }

    /** A system that makes the word 0 behind the entries that are told, with so many ops behind the marks. */
    private static WordFoundry making(String entries, String marks, int ops) {
        WordFoundry x = Bench.told(entries, ": $0 " + marks);
        Bench.enterTimes(x, ops, "7");
        BENCH.same("making", x.isMaking(), true);
        return x;
    }

    private static void makingIsNeeded() {
        BENCH.about("All but ' and [ need that a word is being made, error -14 otherwise");
        for (String word : NEED_MAKING) {
            BENCH.breaks(new WordFoundry(), word, -14, "");
            BENCH.breaks(new WordFoundry(), "] " + word, -14, "");
            BENCH.breaks(Bench.told(": $0 ;"), word, -14, "");
            BENCH.breaks(Bench.told(": $0 ? ~ [ 5 t"), word, -14, "");
        }
        String[] opened = {"?", "? ~", "? |", "b", "b u", "b w", "b w g", "D", "D L", "D l", "i", "x", "X", "v",
            "[ 5 T", "P d"};
        for (String words : opened) {
            BENCH.same(words, Bench.enter(new WordFoundry(), ": $0 " + words) == 'e', false);
            BENCH.same(words, Bench.enter(new WordFoundry(), ": $0 [ " + words) == 'e', false);
        }
        BENCH.same(";", Bench.enter(new WordFoundry(), ": $0 ;"), 'o');
        BENCH.same("; as the system interprets", Bench.enter(new WordFoundry(), ": $0 [ ;"), 'o');
        BENCH.same("[", Bench.enter(new WordFoundry(), "["), 'o');
        BENCH.leaves(Bench.told("c $0"), "' $0", "0");
    }

    private static void makingIsLookedAtFirst() {
        BENCH.about("need that a word is being made, error -14 otherwise: ahead of the stack, the marks and the names");
        for (String word : new String[] {"T", "~", "P", "P 5", "P $9", ";"}) {
            BENCH.breaks(new WordFoundry(), word, -14, "");
        }
        WordFoundry x = Bench.told(": $0 P P ; 7 K $1");
        BENCH.leaves(x, "0 C $1", "-14 7");
    }

    private static void marksOfTheKind() {
        BENCH.about("error -22 if the uppermost mark is none of the kind that is needed");
        String[] open = {"?", "b", "D"};
        for (String[] row : MARKED) {
            BENCH.same(row[1], Bench.enter(new WordFoundry(), ": $0 " + row[0] + " " + row[1]), 'c');
            for (String other : open) {
                WordFoundry x = new WordFoundry();
                boolean fits = row[1].equals("l") || other.equals(row[0].substring(0, 1)) && !row[1].equals("g");
                char answer = Bench.enter(x, ": $0 " + row[0] + " " + other + " " + row[1]);
                BENCH.same(row[1] + " above " + other, answer, fits ? 'c' : 'e');
                BENCH.same("the error", Bench.errorOf(x), fits ? 0 : -22);
            }
        }
    }

    private static void marksThatAreNone() {
        BENCH.about("error -22 if the uppermost mark is none of the kind that is needed: if there is no mark");
        for (String[] row : MARKED) {
            BENCH.breaks(new WordFoundry(), ": $0 " + row[1], -22, "");
            BENCH.breaks(new WordFoundry(), ": $0 1 2 3 " + row[1], -22, "");
            BENCH.breaks(Bench.told(": $0 ? 1 ~ ;"), ": $1 " + row[1], -22, "");
            BENCH.breaks(Bench.told(": $0 " + row[0], "[ 5 t 5"), ": $1 " + row[1], -22, "");
            String closed = ": $0 " + row[0] + " " + row[1] + " " + row[2];
            BENCH.same(closed, Bench.enter(new WordFoundry(), closed + " ;"), 'o');
            BENCH.breaks(new WordFoundry(), closed + " " + row[1], -22, "");
        }
        BENCH.breaks(Bench.told(": $0 ? b D", "[ 5 t 5"), ": $1 ~", -22, "");
    }

    private static void theNextMarkToo() {
        BENCH.about("error -22 if the uppermost mark is none .., or the next one, if two are");
        String[] wrong = {"b", "b b", "? b b", "D b", "? D b", "b ?", "?", "? ?", "b D", "? D"};
        for (String marks : wrong) {
            BENCH.breaks(new WordFoundry(), ": $0 " + marks + " g", -22, "");
        }
        for (String marks : new String[] {"? b", "b w", "? ? b", "b ? b", "D ? b", "b b w", "? 1 b 2"}) {
            BENCH.same(marks, Bench.enter(new WordFoundry(), ": $0 " + marks + " g"), 'c');
        }
        WordFoundry x = Bench.told(": $0 ? b g ;");
        BENCH.same("ops", Bench.ops(x, 0), "z2 j1");
    }

    private static void aDoAnywhere() {
        BENCH.about("l .. needs a mark 'D' anywhere");
        for (String marks : new String[] {"D", "? D", "D ?", "b D ?", "D b b", "D ? b ? b", "D D", "? ? D b"}) {
            BENCH.same(marks, Bench.enter(new WordFoundry(), ": $0 " + marks + " l"), 'c');
        }
        for (String marks : new String[] {"", "?", "b", "? b ? b", "D L", "D L ? b", "D l L"}) {
            BENCH.breaks(new WordFoundry(), ": $0 " + marks + " l", -22, "");
        }
        WordFoundry x = Bench.told(": $0 D 1 ? b l 0 u ~ L ;");
        BENCH.same("ops", Bench.ops(x, 0), "D n1 z6 l7 n0 z3 L1");
    }

    private static void errorsTakeNoMark() {
        BENCH.about("only if no error comes are marks taken and put there");
        String entries = ": $1 P ~ ; : $2 P | ; : $3 P u ; : $4 P w ; : $5 P g ; : $6 P L ; : $7 P l ;";
        WordFoundry x = making(entries + " : $8 P ; ;", "? [", 0);
        BENCH.leaves(x, "2 C 3 C 4 C 5 C 6 C 7 C", "-22 -22 -22 -22 -22 -22");
        Bench.enter(x, "p p p p p p");
        BENCH.leaves(x, "0 C 0 C", "0 -22");
        Bench.enter(x, "p p ;");
        BENCH.same("the jump leads behind the latest op", Bench.ops(x, 8), "z1");
        x = making(entries, "b [", 0);
        BENCH.leaves(x, "0 C 1 C 4 C 5 C 6 C", "-22 -22 -22 -22 -22");
        Bench.enter(x, "p p p p p");
        BENCH.leaves(x, "2 C 2 C", "0 -22");
        Bench.enter(x, "p p ;");
        BENCH.same("the jump leads back", Bench.ops(x, 7), "z0");
        x = making(entries, "D [", 0);
        BENCH.leaves(x, "0 C 1 C 2 C 3 C 4 C", "-22 -22 -22 -22 -22");
        Bench.enter(x, "p p p p p");
        BENCH.leaves(x, "5 C 5 C", "0 -22");
        x = making(entries + " : $8 P ; ;", "? [", 0);
        BENCH.leaves(x, "7 C 0 C 7 C", "-22 0 0");
    }

    private static void fullWordsTakeNoMark() {
        BENCH.about("only if no error comes are marks taken and put there: not with error -8");
        String entries = ": $1 P ~ ; : $2 P | ; : $3 P u ; : $4 P w ; : $5 P g ; : $6 P L ; : $7 P ; ;";
        WordFoundry x = making(entries, "?", 39);
        BENCH.leaves(x, "[ 1 C 0 C 6 C", "-8 0 0");
        BENCH.same("the jump of ?", x.opNumber(7, 0), MOST_OPS);
        x = making(entries, "b", 40);
        BENCH.leaves(x, "[ 2 C 3 C 4 C 0 C 6 C", "-8 -8 -22 -22 -22");
        x = making(entries, "? b", 39);
        BENCH.leaves(x, "[ 4 C 4 C 2 C 0 C 5 C", "-8 -8 -8 -22 -22");
        x = making(entries, "D", 39);
        BENCH.leaves(x, "[ 5 C 5 C 6 C", "-8 -8 -22");
    }

    private static void fullWordsPutNoMark() {
        BENCH.about("only if no error comes are marks .. put there");
        String entries = ": $1 P ? ; : $2 P D ; : $3 P w ; : $4 P g ; : $5 P ; ; : $6 P | ; : $7 P ~ ;";
        WordFoundry x = making(entries, "", 40);
        BENCH.leaves(x, "[ 0 C 1 C 6 C 4 C", "-8 -8 -22 0");
        BENCH.same("ops", x.ops(7), MOST_OPS);
        x = making(entries, "b", 40);
        BENCH.leaves(x, "[ 2 C 3 C 4 C", "-8 -22 -22");
        x = making(entries, "?", 39);
        BENCH.leaves(x, "[ 5 C 6 C 6 C 4 C", "-8 0 -22 0");
    }

    private static void jumpsLeadBehindTheLatestOp() {
        BENCH.about("~ takes a mark 'i', the jump of which leads behind the latest op");
        for (int ops = 0; ops <= 39; ops++) {
            WordFoundry x = making("", "?", ops);
            Bench.enter(x, "~ ;");
            BENCH.same("the jump over " + ops, x.opNumber(0, 0), ops + 1);
        }
        WordFoundry x = Bench.told(": $0 ? ~ ; : $1 ? | ~ ; : $2 ? | | ~ ; : $3 b u ; : $4 1 b u ; : $5 D L ;");
        String[] due = {"z1", "z2 j2", "z2 j3 j3", "z0", "n1 z1", "D L1"};
        for (int entry = 0; entry < due.length; entry++) {
            BENCH.same("ops", Bench.ops(x, entry), due[entry]);
        }
        BENCH.leaves(x, "0 $0 1 $0 0 $1 1 $1 0 $2 1 $2 1 $3 1 $4 2 1 $5", "1");
    }

    private static void jumpsThatLeadNowhereYet() {
        BENCH.about("The number of an op is .. 0 for 'D', 'x', 'X' and 'v', and for a jump that leads nowhere yet");
        WordFoundry x = Bench.told(": $0 1 2 3 x X v ; : $1 1 D L ;");
        for (int index = 3; index < 6; index++) {
            BENCH.same("opNumber", x.opNumber(0, index), 0);
        }
        BENCH.same("opNumber of D", x.opNumber(1, 1), 0);
        BENCH.same("opNumber of L", x.opNumber(1, 2), 2);
        BENCH.same("nothing of what is being made is told", Bench.enter(x, ": $2 1 ?"), 'c');
        BENCH.fails("opNumber", IndexOutOfBoundsException.class, () -> x.opNumber(2, 1));
    }

    private static void marksBelowMarks() {
        BENCH.about("w takes a mark 'b', compiles as ?, and puts its mark 'i' below the mark 'b' again");
        WordFoundry x = Bench.told(": $0 b 1 w 2 g 3 ; : $1 b 1 w 2 w 3 g 4 ~ 5 ; : $2 b 1 w 2 u 3 ~ 4 ;");
        BENCH.same("b w g", Bench.ops(x, 0), "n1 z4 n2 j0 n3");
        BENCH.same("b w w g ~", Bench.ops(x, 1), "n1 z7 n2 z6 n3 j0 n4 n5");
        BENCH.same("b w u ~", Bench.ops(x, 2), "n1 z5 n2 z0 n3 n4");
        BENCH.breaks(x, ": $3 b w ~", -22, "");
        BENCH.breaks(x, ": $3 b w ;", -22, "");
        Bench.enter(x, ": $3 b 1 w 2 g 3 ;");
        BENCH.same("one more time", Bench.ops(x, 3), "n1 z4 n2 j0 n3");
    }

    private static void manyMarksOfOneKind() {
        BENCH.about("What is open in it is told by marks on a pile");
        WordFoundry x = Bench.told(": $0");
        for (int line = 0; line < 5; line++) {
            Bench.enter(x, Bench.times(40, "b"));
        }
        BENCH.same("one that is on the pile 200 times", Bench.enter(x, Bench.times(40, "u")), 'c');
        BENCH.breaks(x, ";", -22, "");
        x = Bench.told(": $0 " + Bench.times(38, "?"), "? ?");
        BENCH.same("forty marks", Bench.enter(x, Bench.times(40, "~")), 'c');
        BENCH.same("and no more", Bench.enter(x, ";"), 'o');
        for (int op = 0; op < MOST_OPS; op++) {
            BENCH.same("opNumber", x.opNumber(0, op), MOST_OPS);
        }
        x = Bench.told(": $0 " + Bench.times(20, "D"), Bench.times(20, "L") + " ;");
        for (int op = 0; op < 20; op++) {
            BENCH.same("opNumber", x.opNumber(0, 20 + op), 20 - op);
        }
        x = Bench.told(": $0");
        for (int i = 0; i < 13; i++) {
            Bench.enter(x, "b b ? b 1 b D b b");
        }
        BENCH.same("39 ops and 78 marks and more", Bench.enter(x, "b ? b b"), 'c');
        BENCH.breaks(x, "d", -8, "");
    }

    private static void leavingLoops() {
        BENCH.about("all l of it lead behind this");
        WordFoundry x = Bench.told(": $0 D l L ; : $1 D l l 1 ? l ~ L 5 ; : $2 D l D l L l L l", ": $2 D l D l L l L ;");
        BENCH.same("one", Bench.ops(x, 0), "D l3 L1");
        BENCH.same("three", Bench.ops(x, 1), "D l7 l7 n1 z6 l7 L1 n5");
        BENCH.same("an l behind all", Bench.ops(x, 2), "D l7 D l5 L3 l7 L1");
        BENCH.same("three entries", x.entries(), 3);
        Bench.enter(x, ": $3 D D l L L D l L ;");
        BENCH.same("one loop behind another", Bench.ops(x, 3), "D D l4 L2 L1 D l8 L6");
        BENCH.leaves(x, "9 1 $0", "");
    }

    private static void doingPartsNeedNoMarks() {
        BENCH.about("v .. needs that there are no marks");
        for (String marks : new String[] {"?", "b", "D", "? b", "b w", "D ? ~", "? |"}) {
            BENCH.breaks(new WordFoundry(), ": $0 " + marks + " v", -22, "");
        }
        for (String marks : new String[] {"", "? ~", "b u", "D L", "? | ~", "b w g", "v", "1"}) {
            BENCH.same("v behind " + marks, Bench.enter(new WordFoundry(), ": $0 " + marks + " v ;"), 'o');
        }
        WordFoundry x = Bench.told(": $0 P v ; : $1 ? [");
        BENCH.leaves(x, "0 C", "-22");
        Bench.enter(x, "p ~ ;");
        BENCH.same("nothing was compiled", Bench.ops(x, 1), "z1");
    }

    private static void numberFromTheStack() {
        BENCH.about("A T needs a number on the stack behind that");
        BENCH.breaks(new WordFoundry(), "T", -14, "");
        BENCH.breaks(new WordFoundry(), "5 T", -14, "");
        BENCH.breaks(new WordFoundry(), ": $0 T", -4, "");
        for (int n : new int[] {Integer.MIN_VALUE, -1, 0, Integer.MAX_VALUE}) {
            WordFoundry x = Bench.told(n + " : $0 T ;");
            BENCH.same("ops", Bench.ops(x, 0), "n" + n);
            BENCH.same("depth", x.depth(), 0);
        }
        WordFoundry y = making("", "", 40);
        BENCH.breaks(y, "T", -4, "");
        y = making("5", "", 40);
        BENCH.breaks(y, "T", -8, "");
        y = making("5", "", 39);
        BENCH.same("the 40th op", Bench.enter(y, "T ;"), 'o');
        BENCH.same("opNumber", y.opNumber(0, 39), 5);
    }

    private static void stateOfTick() {
        BENCH.about("': if a word is being made and the system compiles, it is compiled as a number, "
            + "else it is put on the stack");
        WordFoundry x = Bench.told("c $0 c $1");
        BENCH.leaves(x, "' $1", "1");
        BENCH.same("while it compiles alone", Bench.enter(x, "] ' $0 ["), 'o');
        BENCH.same("stack", Bench.stack(x), "1 0");
        BENCH.same("while a word is being made alone", Bench.enter(x, ": $2 [ ' $1"), 'o');
        BENCH.same("stack", Bench.stack(x), "1 0 1");
        BENCH.same("both", Bench.enter(x, "] ' $1 ' $0 ;"), 'o');
        BENCH.same("ops", Bench.ops(x, 2), "n1 n0");
        BENCH.same("stack", Bench.stack(x), "1 0 1");
        Bench.enter(x, ": $3 P ' ; I");
        BENCH.leaves(x, "$3 $2", "1 0 1 2");
        Bench.enter(x, ": $4 $3 $3 [ $3 $3 ] ;");
        BENCH.same("as it runs", Bench.ops(x, 4), "n3");
        BENCH.same("stack", Bench.stack(x), "1 0 1 2 3");
    }

    private static void tickErrors() {
        BENCH.about("': the errors of the name, of a full stack and of a word with 40 ops");
        BENCH.breaks(new WordFoundry(), "'", -16, "");
        BENCH.breaks(new WordFoundry(), "' 5", -16, "");
        BENCH.breaks(new WordFoundry(), "' d", -16, "");
        BENCH.breaks(new WordFoundry(), "' $0", -13, "");
        BENCH.breaks(making("c $1", "", 40), "' $1", -8, "");
        BENCH.breaks(making("c $1", "", 40), "' $2", -13, "");
        BENCH.breaks(making("c $1", "", 40), "'", -16, "");
        BENCH.same("the 40th op", Bench.enter(making("c $1", "", 39), "' $1 ;"), 'o');
        WordFoundry x = Bench.told("c $1");
        Bench.enterTimes(x, 40, "1");
        BENCH.breaks(x, "' $1", -3, "");
        Bench.enterTimes(x, 40, "1");
        BENCH.breaks(x, "' $2", -13, "");
        Bench.enterTimes(x, 40, "1");
        BENCH.same("compiled with a full stack", Bench.enter(x, ": $2 ' $1 ;"), 'o');
    }

    private static void postponedWords() {
        BENCH.about("P the next word, a core word or a name: one that is immediate is compiled so that it is done when "
            + "the word runs; another one is compiled so that it is compiled when the word runs; error -16 for a number");
        String plain = "dpsor+-*/%<=.{}_ha,@#etC]IkWOcKfm:";
        String immediate = "?~|buwgDLliXxvT['P;";
        for (char core : (plain + immediate).toCharArray()) {
            WordFoundry x = Bench.told(": $0 P " + core + " ;");
            BENCH.same("the op of P " + core, x.opAt(0, 0), plain.indexOf(core) >= 0 ? 'q' : 'M');
            BENCH.same("its number", x.opNumber(0, 0), core);
            BENCH.same("ops", x.ops(0), 1);
        }
        WordFoundry x = Bench.told("c $0 c $1 I : $2 P $0 P $1 ;");
        BENCH.same("P of names", Bench.ops(x, 2), "p0 c1");
        BENCH.breaks(x, ": $3 P 5", -16, "");
        BENCH.breaks(x, ": $3 P", -16, "");
        BENCH.breaks(x, ": $3 P $9", -13, "");
        BENCH.breaks(making("", "", 40), "P 5", -16, "");
        BENCH.breaks(making("", "", 40), "P", -16, "");
        BENCH.breaks(making("", "", 40), "P $9", -13, "");
        BENCH.leaves(x, ": $3 [ P $0 P $1 ;", "");
        BENCH.same("P as the system interprets", Bench.ops(x, 3), "p0 c1");
    }

    private static void postponedWithoutAWord() {
        BENCH.about("so that it is compiled when the word runs, error -14 if none is being made then");
        WordFoundry x = Bench.told("c $0 c $9 I : $1 P $0 ; : $2 P d ; : $3 P ? ; : $4 P $9 ; : $5 P ' ; : $6 P [ ;");
        BENCH.breaks(x, "$1", -14, "2");
        BENCH.breaks(x, "$2", -14, "3");
        BENCH.breaks(x, "$3", -14, "4");
        BENCH.breaks(x, "] ' $1 e", -14, "");
        BENCH.leaves(x, "$4 $5 $0 $6", "0 0");
        Bench.enter(x, ": $7 [ $1 $2 $3 $4 ] ~ ;");
        BENCH.same("with one, whether the system compiles or not", Bench.ops(x, 8), "c0 wd z3");
        BENCH.same("stack", Bench.stack(x), "0 0 0");
    }

    private static void endNeedsNoMarks() {
        BENCH.about("; ends the word: error -22 if there are marks");
        for (String marks : new String[] {"?", "b", "D", "? ? ~", "b b u", "D D L", "b w u", "b w ~", "? |", "D l"}) {
            BENCH.breaks(new WordFoundry(), ": $0 " + marks + " ;", -22, "");
        }
        for (String marks : new String[] {"", "? ~", "b u", "D L", "? | ~", "b w g", "b w u ~", "D l L"}) {
            WordFoundry x = new WordFoundry();
            BENCH.same("; behind " + marks, Bench.enter(x, ": $0 " + marks + " ;"), 'o');
            BENCH.same("entries", x.entries(), 1);
        }
    }

    private static void endInterprets() {
        BENCH.about("; .. the word is an entry .., and the system interprets");
        WordFoundry x = Bench.told(": $0 5");
        BENCH.same("no entry ahead of it", x.entries(), 0);
        BENCH.same(";", Bench.enter(x, ";"), 'o');
        BENCH.same("an entry behind it", x.entries(), 1);
        BENCH.same("kind", x.kindOf(0), ':');
        BENCH.leaves(x, "8", "8");
        BENCH.breaks(x, ";", -14, "");
        BENCH.same("it interprets ahead of it too", Bench.enter(x, ": $1 6 [ ; 9"), 'o');
        BENCH.same("stack", Bench.stack(x), "9");
    }

    private static void fortyOps() {
        BENCH.about("At most 40 ops are in a word, error -8 otherwise");
        for (int ops : new int[] {0, 1, 39, 40}) {
            WordFoundry x = making("", "", ops);
            BENCH.same("the end", Bench.enter(x, ";"), 'o');
            BENCH.same("ops", x.ops(0), ops);
            x = making("", "", ops);
            BENCH.same("one more", Bench.enter(x, "7"), ops < MOST_OPS ? 'c' : 'e');
            BENCH.same("the error", Bench.errorOf(x), ops < MOST_OPS ? 0 : -8);
        }
        WordFoundry x = making("", "", 40);
        BENCH.same("done, not compiled", Bench.enter(x, "[ 7 d + ]"), 'c');
        BENCH.same("marks of b are no ops", Bench.enter(x, "b"), 'c');
        x = Bench.told(": $0 5 ;", ": $1");
        Bench.enterTimes(x, 40, "$0");
        Bench.enter(x, ";");
        BENCH.same("words of 40 ops run", Bench.enter(x, "$1"), 'o');
        BENCH.same("depth", x.depth(), 40);
    }

    private static void fortyOpsByEachWord() {
        BENCH.about("At most 40 ops are in a word, error -8 otherwise: by each word that compiles");
        String[] words = {"5", "-1", "d", "e", "$1", "' $1", "P d", "P ?", "P $1", "P $2", "i", "x", "X", "v", "?", "D"};
        for (String word : words) {
            WordFoundry x = making("c $1 c $2 I", "", 39);
            BENCH.same(word + " as the 40th op", Bench.enter(x, word), 'c');
            BENCH.breaks(x, word, -8, "");
            BENCH.breaks(making("c $1 c $2 I", "", 40), word, -8, "");
        }
        for (String[] row : MARKED) {
            if (!row[1].equals("~")) {
                int opened = row[0].equals("b") ? 0 : 1;
                BENCH.same(row[1], Bench.enter(making("", row[0], 39 - opened), row[1]), 'c');
                BENCH.breaks(making("", row[0], 40 - opened), row[1], -8, "");
            }
        }
        BENCH.same("~ compiles nothing", Bench.enter(making("", "?", 39), "~ ;"), 'o');
        BENCH.breaks(making("", "?", 39), "u", -22, "");
        BENCH.breaks(making("", "", 40), "L", -22, "");
        BENCH.breaks(making("", "?", 39), "v", -22, "");
    }

    private static void fortyOpsByWordsThatRun() {
        BENCH.about("At most 40 ops are in a word, error -8 otherwise: by words that run");
        String entries = "c $1 : $2 P $1 ; : $3 P d ; : $4 P i ; : $5 P x ; : $6 8 P T ; : $7 P ? ;";
        for (int entry = 1; entry <= 6; entry++) {
            WordFoundry x = making(entries, "[", 0);
            Bench.enter(x, "]");
            Bench.enterTimes(x, 39, "7");
            Bench.enter(x, "[");
            BENCH.leaves(x, entry + " C " + entry + " C s p", "-8");
        }
        WordFoundry x = making(entries, "", 40);
        BENCH.breaks(x, "[ $2", -8, "1");
        x = making(entries + " I", "", 40);
        BENCH.breaks(x, "$7", -8, "6");
    }

    private static void numbersOfOps() {
        BENCH.about("The number of an op is the number, the entry, the character, or the op to which it leads");
        WordFoundry x = Bench.told("c $1 c $2 I c $3 : $0 -7 d $3 i P $3 P . P ? P $2 ;");
        BENCH.same("ops", Bench.ops(x, 3), "n-7 wd c2 wi p2 q. M? c1");
        x = Bench.told(": $0 1 ? 2 | 3 ~ b 4 u b 5 w 6 g D l L ;");
        BENCH.same("ops", Bench.ops(x, 0), "n1 z4 n2 j5 n3 n4 z5 n5 z11 n6 j7 D l14 L12");
    }
}
