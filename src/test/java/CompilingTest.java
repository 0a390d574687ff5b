/** Promises 5, 16, 22 to 24 and 26: what the immediate core words compile, and how that runs. */
public final class CompilingTest {
    private static final Bench BENCH = new Bench();

    public static void main(String[] args) {
        straightWords();
        branches();
        openLoops();
        countedLoops();
        leaving();
        endingAndSelf();
        marksThatDiffer();
        errorsChangeNoMark();
        manyMarks();
        tooManyOps();
        notMaking();
        stateWords();
        numbersFromTheStack();
        ticks();
        postponing();
        postponedStructure();
        postponedErrors();
        wrongOps();
        BENCH.close("CompilingTest");
    }

    private static void straightWords() {
        WordFoundry x = new WordFoundry();
        BENCH.same("making before", x.isMaking(), false);
        BENCH.same("begun", Bench.enter(x, ": $3"), 'c');
        BENCH.same("making", x.isMaking(), true);
        BENCH.same("what is made is no entry", x.entries(), 0);
        BENCH.breaks(Bench.told(": $3 1"), "$3", -13, "");
        BENCH.same("compiled", Bench.enter(x, "1 -7 h e C k i"), 'c');
        BENCH.same("depth", x.depth(), 0);
        BENCH.same("ended", Bench.enter(x, ";"), 'o');
        BENCH.same("making behind", x.isMaking(), false);
        BENCH.same("ops", Bench.ops(x, 0), "n1 n-7 wh we wC wk wi");
        Bench.enter(x, ": $4 $3 $3 ;");
        BENCH.same("ops of entries", Bench.ops(x, 1), "c0 c0");
        Bench.enter(x, ": $4 $4 ;");
        BENCH.same("the word itself is not found as it is made", Bench.ops(x, 2), "c1");
        Bench.enter(x, ": $5 ;");
        BENCH.same("no ops", x.ops(3), 0);
        BENCH.leaves(x, "$5", "");
        BENCH.breaks(x, ": $6 : $7", -13, "");
        BENCH.breaks(x, ": $6 [ : $7", -29, "");
        BENCH.breaks(x, ": $6 [ : 3", -16, "");
        BENCH.breaks(x, ":", -16, "");
        BENCH.same("the entries stay", x.entries(), 4);
    }

    private static void branches() {
        WordFoundry x = Bench.told(": $0 ? 1 ~ ; : $1 ? 1 | 2 ~ ; : $2 ? ? 1 | 2 ~ | 3 ~ ;");
        BENCH.same("? ~", Bench.ops(x, 0), "z2 n1");
        BENCH.same("? | ~", Bench.ops(x, 1), "z3 n1 j4 n2");
        BENCH.same("nested", Bench.ops(x, 2), "z6 z4 n1 j5 n2 j7 n3");
        BENCH.leaves(x, "0 $0 -1 $0", "1");
        BENCH.leaves(x, "0 $1 5 $1", "1 2 1");
        BENCH.leaves(x, "p p p 1 1 $2 0 1 $2 1 0 $2", "1 2 1 3");
        BENCH.breaks(x, "p p p p $0", -4, "0");
        Bench.enter(x, ": $3 ? 1");
        BENCH.same("making", x.isMaking(), true);
        Bench.enter(x, "~ ;");
        BENCH.same("over two lines", Bench.ops(x, 3), "z2 n1");
    }

    private static void openLoops() {
        WordFoundry x = Bench.told(": $0 b d . 1 - d 0 = u p ;");
        BENCH.same("b u", Bench.ops(x, 0), "wd w. n1 w- wd n0 w= z0 wp");
        BENCH.leaves(x, "3 $0", "");
        BENCH.same("outs", Bench.outs(x), "3 2 1");
        Bench.enter(x, ": $1 b d w d . 1 - g p 7 . ;");
        BENCH.same("b w g", Bench.ops(x, 1), "wd z7 wd w. n1 w- j0 wp n7 w.");
        BENCH.leaves(x, "2 $1 0 $1", "");
        BENCH.same("outs", Bench.outs(x), "3 2 1 2 1 7 7");
        Bench.enter(x, ": $2 1 b 2 w 3 w 4 g 5 ~ 6 ;");
        BENCH.same("two w", Bench.ops(x, 2), "n1 n2 z8 n3 z7 n4 j1 n5 n6");
        Bench.enter(x, ": $3 b b 1 u 2 u ;");
        BENCH.same("two b", Bench.ops(x, 3), "n1 z0 n2 z0");
        Bench.enter(x, ": $4 1 b 2 b 3 u 4 u ;");
        BENCH.same("b in b", Bench.ops(x, 4), "n1 n2 n3 z2 n4 z1");
        Bench.enter(x, ": $5 b ? 1 ~ 0 u ;");
        BENCH.same("? in b", Bench.ops(x, 5), "z2 n1 n0 z0");
    }

    private static void countedLoops() {
        WordFoundry x = Bench.told(": $0 D i . L ;");
        BENCH.same("D i L", Bench.ops(x, 0), "D wi w. L1");
        BENCH.leaves(x, "3 0 $0", "");
        BENCH.same("outs", Bench.outs(x), "0 1 2");
        BENCH.leaves(x, "3 2 $0 -2 -4 $0", "");
        BENCH.same("outs", Bench.outs(x), "0 1 2 2 -4 -3");
        BENCH.leaves(x, "-2147483648 2147483646 $0", "");
        BENCH.same("the index wraps", x.outAt(7), Integer.MAX_VALUE);
        BENCH.same("outs", x.outs(), 8);
        BENCH.breaks(x, "3 3 $0", -90, "");
        BENCH.breaks(x, "3 $0", -4, "0");
        x = Bench.told(": $0 D 2 0 D i . L i . L ;", "7 5 $0");
        BENCH.same("nested", Bench.outs(x), "0 1 5 0 1 6");
        x = Bench.told(": $0 D } p } p L ;", ": $1 D } p L ;", ": $2 i ;", "1 { 2 {");
        BENCH.breaks(x, "7 5 $0", -6, "0");
        Bench.enter(x, "1 { 2 {");
        BENCH.breaks(x, "7 5 $1", -6, "1");
        BENCH.breaks(x, "7 5 { $2", -6, "2");
        StringBuilder full = new StringBuilder();
        for (int i = 0; i < 19; i++) {
            full.append("1 { ");
        }
        x = Bench.told(": $0 D L ;", full.toString(), full + "1 {");
        BENCH.same("second", x.second(), 39);
        BENCH.breaks(x, "2 1 $0", -3, "0");
    }

    private static void leaving() {
        WordFoundry x = Bench.told(": $0 D i . i 3 = ? l ~ L 77 . ;");
        BENCH.same("l", Bench.ops(x, 0), "D wi w. wi n3 w= z8 l9 L1 n77 w.");
        BENCH.leaves(x, "9 1 $0", "");
        BENCH.same("outs", Bench.outs(x), "1 2 3 77");
        BENCH.same("second", x.second(), 0);
        Bench.enter(x, ": $1 D 1 ? l ~ 2 0 D l L l L l ;");
        BENCH.same("l behind every D", Bench.errorOf(x), -22);
        Bench.enter(x, ": $1 D 1 ? l ~ 2 0 D l L l L 5 ;");
        BENCH.same("l of two loops", Bench.ops(x, 1), "D n1 z4 l11 n2 n0 D l9 L7 l11 L1 n5");
        Bench.enter(x, ": $2 D ? l l ~ L ;");
        BENCH.same("two l", Bench.ops(x, 2), "D z4 l5 l5 L1");
        Bench.enter(x, ": $3 l");
        BENCH.same("l without a D", x.error(), -22);
        Bench.enter(x, ": $3 D } p } p l L ;");
        BENCH.breaks(x, "2 1 $3", -6, "3");
        Bench.enter(x, "1 { 2 {");
        BENCH.breaks(x, "2 1 $3", -6, "3");
    }

    private static void endingAndSelf() {
        WordFoundry x = Bench.told(": $0 d . d 0 = ? x ~ 1 - X 8 . ;");
        BENCH.same("x and X", Bench.ops(x, 0), "wd w. wd n0 w= z7 x n1 w- X n8 w.");
        BENCH.leaves(x, "2 $0", "0");
        BENCH.same("outs", Bench.outs(x), "2 1 0 8 8");
        Bench.enter(x, ": $1 1 . x 2 . ; : $2 $1 3 . ;");
        BENCH.leaves(x, "$2", "0");
        BENCH.same("x ends the word alone", x.outAt(6), 3);
        BENCH.same("outs", x.outs(), 7);
    }

    private static void marksThatDiffer() {
        String[] lines = {"~", "|", "u", "w", "g", "L", "l", "? ;", "b ;", "D ;", "? u", "? w", "? g", "? L", "? l",
            "b ~", "b |", "b g", "b L", "b l", "D ~", "D |", "D u", "D w", "D g", "b b g", "? b b g", "D b g",
            "b ? g", "? b w u ;", "? b L", "D ? L", "D b L", "? v", "b v", "D v", "? ~ ~", "b 1 u u", "b w g g",
            "1 1 D L L", "? b ;", "D ? ;", "b w ~"};
        for (String line : lines) {
            BENCH.breaks(new WordFoundry(), ": $0 " + line, -22, "");
        }
        BENCH.same("l with a D below other marks", Bench.enter(new WordFoundry(), ": $0 D ? b l"), 'c');
        BENCH.same("u after w", Bench.enter(new WordFoundry(), ": $0 b w u ~ ;"), 'o');
    }

    /** An error within C leaves what is being made as it is. */
    private static void errorsChangeNoMark() {
        WordFoundry x = Bench.told(": $0 P ~ ; : $1 P L ; : $2 P g ; : $3 P | ;", ": $4 b ? [ 1 C . 2 C . 3 C .");
        BENCH.same("g needs a b", Bench.outs(x), "-22 -22 0");
    }

    private static void manyMarks() {
        WordFoundry x = Bench.told(": $0 P b ; I", ": $1");
        StringBuilder forty = new StringBuilder();
        for (int i = 0; i < 40; i++) {
            forty.append("b ");
        }
        for (int line = 0; line < 10; line++) {
            BENCH.same("b has no op", Bench.enter(x, forty.toString()), 'c');
        }
        BENCH.same("b by a word", Bench.enter(x, "$0 $0 $0"), 'c');
        for (int i = 0; i < 39; i++) {
            BENCH.same("u takes one", Bench.enter(x, "u"), 'c');
        }
        BENCH.breaks(x, "u u", -8, "");
        x = Bench.told(": $0");
        for (int i = 0; i < 19; i++) {
            BENCH.same("marks of all kinds", Bench.enter(x, "b ? b b D b"), 'c');
        }
        BENCH.same("marks of all kinds", Bench.enter(x, "b ? b"), 'c');
        BENCH.breaks(x, "? ?", -8, "");
    }

    private static void tooManyOps() {
        WordFoundry x = Bench.told(": $0");
        StringBuilder twenty = new StringBuilder();
        for (int i = 0; i < 20; i++) {
            twenty.append("d ");
        }
        Bench.enter(x, twenty.toString());
        Bench.enter(x, twenty.toString());
        BENCH.same("forty ops", Bench.enter(x, "[ ] ;"), 'o');
        BENCH.same("ops", x.ops(0), 40);
        for (String more : new String[] {"d", "1", "$0", "?", "x", "X", "v", "i", "D", "P .", "' $0", "P $0"}) {
            x = Bench.told(": $0 ;", ": $1", twenty.toString(), twenty.toString());
            BENCH.breaks(x, more, -8, "");
        }
        x = Bench.told(": $0", twenty.toString(), twenty.toString());
        BENCH.breaks(x, "~", -22, "");
        x = Bench.told(": $0", twenty.toString(), twenty + "[ 5");
        BENCH.breaks(x, "T", -8, "");
        x = Bench.told(": $0 ?", twenty.toString(), twenty.substring(2));
        BENCH.same("~ has no op", Bench.enter(x, "~ ;"), 'o');
        BENCH.same("a jump to the end", x.opNumber(0, 0), 40);
    }

    private static void notMaking() {
        for (String word : "? ~ | b u w g D L l i x X v T P ;".split(" ")) {
            BENCH.breaks(new WordFoundry(), word, -14, "");
            BENCH.breaks(new WordFoundry(), "] " + word, -14, "");
        }
        for (String word : "1 d h $0 e C : ]".split(" ")) {
            BENCH.breaks(Bench.told(": $0 ;"), "] " + word, -14, "");
        }
        BENCH.same("[ is done", Bench.enter(new WordFoundry(), "] ["), 'o');
        BENCH.leaves(Bench.told(": $0 ;"), "] ' $0", "0");
        BENCH.breaks(new WordFoundry(), "' $0", -13, "");
        BENCH.breaks(new WordFoundry(), "P $0", -14, "");
    }

    private static void stateWords() {
        WordFoundry x = Bench.told(": $0 [ 1 2 + . 5 ] 6 ;");
        BENCH.same("[ and ]", Bench.ops(x, 0), "n6");
        BENCH.same("done between", Bench.outs(x), "3");
        BENCH.same("stack", Bench.stack(x), "5");
        BENCH.same("; while the system interprets", Bench.enter(x, ": $1 7 [ ;"), 'o');
        BENCH.same("ops", Bench.ops(x, 1), "n7");
        BENCH.same("an immediate word while the system interprets", Bench.enter(x, ": $2 [ ? ] 1 ~"), 'c');
        BENCH.same("enter", Bench.enter(x, "["), 'o');
        BENCH.same("making", x.isMaking(), true);
        BENCH.same("enter", Bench.enter(x, ";"), 'o');
        BENCH.same("ops", Bench.ops(x, 2), "z2 n1");
        Bench.enter(x, ": $3 9 . ; I : $4 1 $3 2 ;");
        BENCH.same("an immediate entry is done", Bench.outs(x), "3 9");
        BENCH.same("ops", Bench.ops(x, 4), "n1 n2");
    }

    private static void numbersFromTheStack() {
        WordFoundry x = Bench.told("4 5", ": $0 T [ 9 ] T ;");
        BENCH.same("T", Bench.ops(x, 0), "n5 n9");
        BENCH.same("stack", Bench.stack(x), "4");
        BENCH.breaks(x, "p : $0 T", -4, "");
        BENCH.breaks(x, "T", -14, "");
    }

    private static void ticks() {
        WordFoundry x = Bench.told(": $0 ; : $1 ;");
        BENCH.leaves(x, "' $1", "1");
        Bench.enter(x, ": $2 ' $1 [ ' $0 ] ' $0 ;");
        BENCH.same("'", Bench.ops(x, 2), "n1 n0");
        BENCH.same("stack", Bench.stack(x), "1 0");
        for (String wrong : new String[] {"'", "' 1", "' d"}) {
            BENCH.breaks(x, wrong, -16, "");
            BENCH.breaks(x, ": $2 " + wrong, -16, "");
        }
        BENCH.breaks(x, "' $9", -13, "");
        BENCH.breaks(x, ": $2 ' $9 ;", -13, "");
        x = Bench.told(": $0 ; : $1 P ' ;");
        BENCH.same("' in a word", Bench.ops(x, 1), "M'");
        BENCH.leaves(x, "$1 $0 $1 $1", "0 1");
        BENCH.breaks(x, "$1 5", -16, "1");
        BENCH.breaks(x, "$1 $7", -13, "1");
        Bench.enter(x, "' $1 C $0 . . ' $1 C 5 . . ' $1 C $7 .");
        BENCH.same("what is no name is not taken, and a name not found is", Bench.outs(x), "0 0 5 -16 -13");
    }

    private static void postponing() {
        WordFoundry x = Bench.told(": $0 ; : $1 ; I : $2 P $0 P $1 P . P ? P i P ; P [ P : P e ;");
        BENCH.same("P", Bench.ops(x, 2), "p0 c1 q. M? Mi M; M[ q: qe");
        BENCH.breaks(x, ": $3 P", -16, "");
        BENCH.breaks(x, ": $3 P 5", -16, "");
        BENCH.breaks(x, ": $3 P $9", -13, "");
        BENCH.breaks(x, "P 5", -14, "");
        Bench.enter(x, ": $3 P $0 P . ;");
        BENCH.breaks(x, "$3", -14, "3");
        BENCH.same("P takes the next word alone", Bench.enter(x, ": $4 P P P P . ;"), 'o');
        BENCH.same("ops", Bench.ops(x, 4), "MP MP w.");
    }

    private static void postponedStructure() {
        WordFoundry x = Bench.told(": $0 P ? ; I : $1 P ~ ; I : $2 0 P T P = P $0 ; I", ": $3 $0 1 $1 ; : $4 $2 1 $1 ;");
        BENCH.same("? and ~ of the user", Bench.ops(x, 3), "z2 n1");
        BENCH.same("with a number", Bench.ops(x, 4), "n0 w= z4 n1");
        BENCH.leaves(x, "0 $4 1 $4", "1");
        Bench.enter(x, ": $5 : 7 P T P ; ;");
        BENCH.leaves(x, "$5 $6 $6", "1 7");
    }

    private static void postponedErrors() {
        WordFoundry x = Bench.told(": $0 P ~ ;");
        BENCH.breaks(x, "$0", -14, "0");
        BENCH.breaks(x, ": $1 [ $0", -22, "0");
        Bench.enter(x, ": $1 ? [ $0 ] 1 ;");
        BENCH.same("a mark of the line is taken by a word", Bench.ops(x, 1), "z1 n1");
        BENCH.leaves(x, ": $2 b [ ' $0 C ]", "-22");
        BENCH.same("an error that is caught leaves the mark", Bench.enter(x, "0 u ;"), 'o');
        BENCH.same("ops", Bench.ops(x, 2), "n0 z0");
    }

    private static void wrongOps() {
        WordFoundry x = Bench.told(": $0 1 d ; c $1");
        for (int index : new int[] {-1, 2, 40, Integer.MIN_VALUE, Integer.MAX_VALUE}) {
            BENCH.fails("opAt", IndexOutOfBoundsException.class, () -> x.opAt(0, index));
            BENCH.fails("opNumber", IndexOutOfBoundsException.class, () -> x.opNumber(0, index));
        }
        for (int entry : new int[] {-1, 2, 30, Integer.MIN_VALUE, Integer.MAX_VALUE}) {
            BENCH.fails("ops", IndexOutOfBoundsException.class, () -> x.ops(entry));
            BENCH.fails("opAt", IndexOutOfBoundsException.class, () -> x.opAt(entry, 0));
            BENCH.fails("opNumber", IndexOutOfBoundsException.class, () -> x.opNumber(entry, 0));
        }
        BENCH.same("ops of what is created", x.ops(1), 0);
        BENCH.fails("opAt of what is created", IndexOutOfBoundsException.class, () -> x.opAt(1, 0));
        BENCH.fails("opNumber of what is created", IndexOutOfBoundsException.class, () -> x.opNumber(1, 0));
    }
}
