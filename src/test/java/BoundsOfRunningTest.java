/** The sentences about running, throwing and catching that name a boundary, on both sides of it. */
public final class BoundsOfRunningTest {
    private static final Bench BENCH = new Bench();
    private static final int MOST_STEPS = 1000;
    /** Runs itself so often as the number on the stack tells, and then the entry 0. */
    private static final String DOWN = ": $1 d ? 1 - X x ~ p $0 ;";

    public static void main(String[] args) {
        zeroIsNotThrown();
        everyNumberIsThrown();
        nothingIsThrown();
        bothStacksAsTheyWere();
        fullStacksAsTheyWere();
        catchingWithinCatching();
        theNearestCatches();
        errorsOfWhatRunsAreCaught();
        errorsOfTheCatchItself();
        allElseAsItHasBecome();
        lineGoesOnBehindACatch();
        theLastStepOfTheLine();
        theLastStepOfAWord();
        stepsOfTheNextLine();
        endOfStepsIsNotThrown();
        thirtyWords();
        thirtyDeferred();
        thirtyCreated();
        whatDoesNotCount();
        theThirtiethWord();
        levelsComeBack();
        moreOnTheSecond();
        fewerOnTheSecond();
        unevenEnds();
        goesOnBehind();
        loopToTheLimit();
        loopsNeedTheirOwn();
        endOfAWord();
        BENCH.close("BoundsOfRunningTest");
    }

    private static void zeroIsNotThrown() {
        BENCH.about("t: n --, throws n if it is not 0");
        BENCH.leaves(new WordFoundry(), "5 0 t 6", "5 6");
        for (int n : new int[] {1, -1, 2, -13, 90, -90, Integer.MIN_VALUE, Integer.MAX_VALUE}) {
            BENCH.breaks(new WordFoundry(), "5 " + n + " t 6", n, "");
        }
        BENCH.breaks(new WordFoundry(), "t", -4, "");
    }

    private static void everyNumberIsThrown() {
        BENCH.about("if n is thrown in it .. n is on the stack");
        WordFoundry x = Bench.told(": $0 t 8 . ;");
        for (int n : new int[] {1, -1, -3, -4, -5, -13, -89, -90, -91, Integer.MIN_VALUE, Integer.MAX_VALUE}) {
            BENCH.leaves(x, n + " 0 C s p", String.valueOf(n));
            BENCH.same("no error", Bench.errorOf(x), 0);
            Bench.enter(x, "p");
        }
        BENCH.same("what stands behind it is not done", x.outs(), 0);
        BENCH.leaves(x, "0 0 C", "0");
        BENCH.same("0 is not thrown", Bench.outs(x), "8");
    }

    private static void nothingIsThrown() {
        BENCH.about("C: runs the entry x; then 0 is on the stack");
        WordFoundry x = Bench.told(": $0 7 8 ; : $1 p ; : $2 ; 9 K $3 c $4 f $5 2 k $5 : $6 c v 6 ; $6 $7");
        BENCH.leaves(x, "5 0 C", "5 7 8 0");
        BENCH.leaves(x, "p p p 1 C", "0");
        BENCH.leaves(x, "p 2 C 3 C 4 C 5 C", "0 9 0 0 0 0");
        BENCH.leaves(x, "p p p p p p 7 C", "0 6 0");
        x = Bench.told("c $0 m $1 : $2 1 C ;");
        BENCH.leaves(x, "1 C", "0");
        BENCH.same("the marker ran", x.entries(), 1);
    }

    private static void bothStacksAsTheyWere() {
        BENCH.about("both stacks are as they were behind taking x");
        WordFoundry x = Bench.told(": $0 5 t ; : $1 1 2 3 5 t ; : $2 p p 5 t ; : $3 1 { 2 { 5 t ; : $4 + 9 s 5 t ;");
        for (int entry = 0; entry < 5; entry++) {
            BENCH.leaves(x, "11 12 { 13 " + entry + " C", "11 13 5");
            BENCH.same("second", x.second(), 1);
            BENCH.leaves(x, "}", "11 13 5 12");
            Bench.enter(x, "p p p p");
        }
        x = Bench.told(": $0 } ; : $1 p p p p 8 { 9 { 0 C 4 t ; : $2 1 { 2 { 1 C } } ;");
        BENCH.leaves(x, "5 6 7 8 $2", "5 6 7 8 4 2 1");
    }

    private static void fullStacksAsTheyWere() {
        BENCH.about("both stacks are as they were behind taking x, with 39 and 40 numbers too");
        WordFoundry x = Bench.told(": $0 " + Bench.times(19, "p") + " 5 t ;");
        for (int i = 0; i < 40; i++) {
            Bench.enter(x, i + " {");
        }
        for (int i = 0; i < 39; i++) {
            Bench.enter(x, String.valueOf(i));
        }
        BENCH.same("C", Bench.enter(x, "0 C"), 'o');
        BENCH.same("depth", x.depth(), 40);
        BENCH.same("second", x.second(), 40);
        BENCH.same("n", x.at(0), 5);
        for (int i = 0; i < 39; i++) {
            BENCH.same("at", x.at(39 - i), i);
        }
        Bench.enterTimes(x, 40, "p");
        Bench.enterTimes(x, 40, "}");
        for (int i = 0; i < 40; i++) {
            BENCH.same("the second stack", x.at(i), i);
        }
        WordFoundry y = Bench.told(": $0 5 t ;");
        BENCH.leaves(y, "0 C", "5");
    }

    private static void catchingWithinCatching() {
        BENCH.about("C runs the entry x, which may catch itself");
        WordFoundry x = Bench.told(": $0 5 t ; : $1 0 C 1 + t ; : $2 1 C 1 + t ; : $3 2 C ;");
        BENCH.leaves(x, "$3", "7");
        BENCH.leaves(x, "p 3 C", "7 0");
        BENCH.breaks(x, "$2", 7, "2");
        x = Bench.told(": $0 d ? 1 - 0 C x ~ 5 t ;");
        BENCH.leaves(x, "0 0 C", "0 5");
        BENCH.leaves(x, "p p 1 0 C", "0 5 0");
        BENCH.leaves(x, "p p p 29 0 C", "0 5 " + Bench.times(29, "0"));
    }

    private static void theNearestCatches() {
        BENCH.about("An error throws its number, which can be caught by C");
        WordFoundry x = Bench.told(": $0 5 t ; : $1 0 C . 8 . ; : $2 1 C . 9 . ;");
        BENCH.leaves(x, "$2", "");
        BENCH.same("the inner one catches", Bench.outs(x), "5 8 0 9");
        Bench.enter(x, ": $3 0 C t ; : $4 3 C . ; $4");
        BENCH.same("what is thrown once more", Bench.outs(x), "5 8 0 9 5");
        BENCH.breaks(x, ": $5 0 C p 6 t ; $5", 6, "5");
        BENCH.breaks(x, "0 C p 7 t", 7, "");
        BENCH.breaks(x, "0 C p $0", 5, "0");
    }

    private static void errorsOfWhatRunsAreCaught() {
        BENCH.about("An error throws its number, which can be caught by C: each error");
        String[] bodies = {"d p ? ~ + + +", "100 @", "1 0 /", "50 e", "P d", "c", "2 W", "1 {", "v", "0 k", "} ", "-1 a",
            "X", "P ;", "1 1 1 1 1 1 1 1 1 1 X", "k", "$0"};
        int[] due = {-4, -9, -10, -13, -14, -16, -24, -25, -31, -16, -6, -8, -5, -14, -3, -4, -13};
        for (int i = 0; i < bodies.length; i++) {
            WordFoundry x = Bench.told("f $0 : $1 " + bodies[i] + " ;");
            BENCH.leaves(x, "' $1 C", String.valueOf(due[i]));
        }
        WordFoundry x = Bench.told("f $0 : $1 1 k ; : $2 m ; : $3 P ~ ; : $4 : ; : $5 1 C ;");
        BENCH.leaves(x, "7 1 C $1", "7 -32");
        Bench.enter(x, "p p : $6 [");
        BENCH.leaves(x, "3 C 4 C $7", "-22 -29");
        Bench.enter(x, "p p ; m $7 : $6 [");
        BENCH.leaves(x, "' $7 C", "-31");
    }

    private static void errorsOfTheCatchItself() {
        BENCH.about("C: x --, error -4 if a word needs more than the stack has");
        BENCH.breaks(new WordFoundry(), "C", -4, "");
        WordFoundry x = Bench.told(": $0 C ; : $1 0 C ;");
        BENCH.breaks(x, "$0", -4, "0");
        BENCH.leaves(x, "$1", "-4");
        BENCH.leaves(x, "p ' $0 $0", "-4");
    }

    private static void allElseAsItHasBecome() {
        BENCH.about("all else stays as it has become");
        WordFoundry x = Bench.told(": $0 5 , 6 99 # 7 . 1 W 1 O c 0 k I 8 t ; : $1 : ] 8 t ; : $2 P [ 8 t ; f $9");
        BENCH.leaves(x, "0 C $8 $9", "8");
        BENCH.same("k took the next name of the line", Bench.errorOf(x), 0);
        BENCH.same("here", x.here(), 1);
        BENCH.same("cell 0", x.cell(0), 5);
        BENCH.same("cell 99", x.cell(99), 6);
        BENCH.same("outs", Bench.outs(x), "7");
        BENCH.same("entries", x.entries(), 5);
        BENCH.same("vocabulary", x.vocabularyOf(4), 1);
        BENCH.same("immediate", x.isImmediate(4), true);
        BENCH.same("what is searched first", x.find(8), 4);
        BENCH.same("a word is begun", Bench.enter(x, "1 C $7"), 'c');
        BENCH.same("the system interprets", Bench.enter(x, "[ ] [ 2 C"), 'o');
        BENCH.same("and the word is being made", x.isMaking(), true);
    }

    private static void lineGoesOnBehindACatch() {
        BENCH.about("all else stays as it has become, and the line goes on");
        WordFoundry x = Bench.told(": $0 5 t ;");
        BENCH.leaves(x, "0 C 6 . 0 C", "5 5");
        BENCH.same("outs", Bench.outs(x), "6");
        BENCH.same("steps of it", x.steps(), 4 + 8 + 4 - 2);
    }

    /** A line that makes so many steps ahead of what is told. */
    private static WordFoundry wasting(int steps, String behind) {
        WordFoundry x = Bench.told(": $0 b d w 1 - g p ; : $1 b 0 u ;");
        long before = x.steps();
        // Two words, a d and a jump at the end and the p, and five ops for each turn.
        int turns = (steps - 5) / 5;
        StringBuilder line = new StringBuilder(turns + " $0");
        for (int i = 5 + 5 * turns; i < steps; i++) {
            line.append(" h");
        }
        Bench.enter(x, line.append(' ').append(behind).toString());
        BENCH.same("the steps of the line", x.steps() - before <= MOST_STEPS, true);
        return x;
    }

    private static void theLastStepOfTheLine() {
        BENCH.about("-90: when a step would be the one behind 1000 of a line");
        for (int steps : new int[] {995, 996, 997, 998, 999}) {
            WordFoundry x = wasting(steps, "8 .");
            boolean fits = steps + 2 <= MOST_STEPS;
            BENCH.same("the error behind " + steps, Bench.errorOf(x), fits ? 0 : -90);
            BENCH.same("outs", Bench.outs(x), fits ? "8" : "");
            x = wasting(steps, "8");
            BENCH.same("the error behind " + steps, Bench.errorOf(x), 0);
        }
        BENCH.same("the word behind 1000", Bench.errorOf(wasting(1000, "8")), -90);
        BENCH.same("1000 steps", Bench.errorOf(wasting(1000, "")), 0);
        BENCH.same("a name taken is no step", Bench.errorOf(wasting(999, "c $5")), 0);
        BENCH.same("another error in the step 1000", Bench.errorOf(wasting(999, "}")), -6);
        BENCH.same("another error behind it", Bench.errorOf(wasting(1000, "}")), -90);
        BENCH.same("a name not found in the step 1000", Bench.errorOf(wasting(999, "$9")), -13);
        BENCH.same("and behind it", Bench.errorOf(wasting(1000, "$9")), -90);
        BENCH.same("the word that is compiled in the step 1000", Bench.errorOf(wasting(998, ": $5 1")), 0);
        BENCH.same("and behind it", Bench.errorOf(wasting(999, ": $5 1")), -90);
    }

    private static void theLastStepOfAWord() {
        BENCH.about("A step is .. each op: -90 for the op behind 1000 steps");
        for (int ops = 0; ops <= 5; ops++) {
            for (int behind : new int[] {995, 996, 999}) {
                WordFoundry x = Bench.told(": $0 b d w 1 - g p ; : $2 " + Bench.times(ops, "h") + " ;");
                long before = x.steps();
                int turns = (behind - 5) / 5;
                Bench.enter(x, turns + " $0" + " h".repeat(behind - 5 - 5 * turns) + " $2");
                int all = behind + 1 + ops;
                BENCH.same("the error behind " + behind, Bench.errorOf(x), all <= MOST_STEPS ? 0 : -90);
                BENCH.same("steps", x.steps() - before, Math.min(all, MOST_STEPS));
            }
        }
    }

    private static void stepsOfTheNextLine() {
        BENCH.about("1000 steps of a line: the next line has its own");
        WordFoundry x = Bench.told(": $0 b d w 1 - g p ; : $1 b 0 u ;");
        for (int line = 0; line < 5; line++) {
            BENCH.leaves(x, "199 $0", "");
            BENCH.breaks(x, "$1", -90, "");
        }
        BENCH.same("steps", x.steps(), 14 + 5 * 1000 + 5 * 1000);
    }

    private static void endOfStepsIsNotThrown() {
        BENCH.about("the error -90 is not thrown, but ends the line as others do");
        WordFoundry x = Bench.told(": $0 b 0 u ; : $1 0 C 7 . ; : $2 1 C 7 . ; 8 {");
        BENCH.breaks(x, "0 C 7 .", -90, "");
        BENCH.breaks(x, "$2", -90, "");
        BENCH.breaks(x, ": $3 [ $2", -90, "");
        BENCH.same("nothing was caught", x.outs(), 0);
        Bench.enter(x, ": $4 -90 t ;");
        BENCH.leaves(x, "' $4 C", "-90");
        BENCH.leaves(x, "p 5", "5");
        BENCH.breaks(x, "0 C", -90, "");
        BENCH.leaves(x, "' $4 C", "-90");
    }

    private static void thirtyWords() {
        BENCH.about("Error -5 if more than 30 words would run within one another");
        WordFoundry x = Bench.told(": $0 ;", DOWN);
        BENCH.leaves(x, "27 $1", "");
        BENCH.leaves(x, "28 $1", "");
        BENCH.breaks(x, "29 $1", -5, Bench.times(30, "1"));
        BENCH.breaks(x, "30 $1", -5, Bench.times(30, "1"));
        BENCH.breaks(x, "1000 $1", -5, Bench.times(30, "1"));
        Bench.enter(x, ": $2 $1 ;");
        BENCH.leaves(x, "27 $2", "");
        BENCH.breaks(x, "28 $2", -5, Bench.times(29, "1") + " 2");
        BENCH.leaves(x, "28 1 e 28 1 C", "0");
        BENCH.leaves(x, "p 29 1 C", "29 -5");
        x = Bench.told(": $0 X ;");
        BENCH.breaks(x, "$0", -5, Bench.times(30, "0"));
        BENCH.same("steps of 30 levels", x.steps(), 3 + 1 + 30);
    }

    private static void thirtyDeferred() {
        BENCH.about("Error -5 if more than 30 words would run within one another, deferred ones too");
        WordFoundry x = Bench.told("f $0", DOWN, ": $2 ; 7 K $3 : $4 f ;");
        BENCH.breaks(x, "28 $1", -13, Bench.times(29, "1"));
        BENCH.breaks(x, "29 $1", -13, Bench.times(30, "1"));
        BENCH.leaves(x, "' $3 k $0 28 $1", "7");
        BENCH.breaks(x, "29 $1", -5, Bench.times(30, "1"));
        BENCH.leaves(x, "' $2 k $0 27 $1", "");
        BENCH.breaks(x, "28 $1", -5, "0 " + Bench.times(29, "1"));
        x = new WordFoundry();
        for (int i = 0; i < 30; i++) {
            Bench.enter(x, i == 0 ? "7 K $0" : "f $0 " + (i - 1) + " k $0");
        }
        BENCH.leaves(x, "$0", "7");
        x = new WordFoundry();
        Bench.enter(x, ": $0 ;");
        for (int i = 1; i < 30; i++) {
            Bench.enter(x, "f $0 " + (i - 1) + " k $0");
        }
        BENCH.leaves(x, "$0", "");
        BENCH.leaves(x, "28 k $0", "");
        x = Bench.told("f $0 0 k $0");
        BENCH.breaks(x, "$0", -5, Bench.times(30, "0"));
        BENCH.leaves(x, "0 C", "-5");
    }

    private static void thirtyCreated() {
        BENCH.about("Error -5 if more than 30 words would run within one another, doing parts too");
        WordFoundry x = Bench.told("f $0", DOWN, ": $2 c v 6 ; $2 $3 c $4");
        BENCH.leaves(x, "' $3 k $0 27 $1", "0 6");
        BENCH.breaks(x, "28 $1", -5, "0 " + Bench.times(29, "1"));
        BENCH.leaves(x, "' $4 k $0 28 $1", "0");
        BENCH.breaks(x, "29 $1", -5, Bench.times(30, "1"));
        x = Bench.told("f $0", ": $1 c v d 1 = ? 5 t ~ $0 ;", "$1 $2 2 k $0");
        BENCH.breaks(x, "$2", -5, Bench.times(15, "2 0").replace("2 0", "0 2"));
    }

    private static void whatDoesNotCount() {
        BENCH.about("trace: .. deferred ones that run another one, and created ones whose doing part runs, count");
        for (String make : new String[] {"7 K $0", "c $0", "m $0"}) {
            WordFoundry x = Bench.told("f $9", ": $1 d ? 1 - X x ~ p $9 ;", make, "2 k $9");
            BENCH.breaks(x, "29 $1", -5, Bench.times(30, "1"));
            BENCH.same(make + " in a deferred one that is the 30th", Bench.enter(x, "28 $1"), 'o');
            x = Bench.told(": $1 d ? 1 - X x ~ p 1 e ;", make);
            BENCH.same(make + " in the 30th word", Bench.enter(x, "29 $1"), 'o');
            BENCH.breaks(x, "30 $1", -5, Bench.times(30, "0"));
        }
        WordFoundry x = Bench.told("7 K $0 c $1 f $2 0 k $2 : $3 c v 5 t ; $3 $4");
        Bench.enterTimes(x, 40, "1");
        BENCH.breaks(x, "$0", -3, "");
        Bench.enterTimes(x, 40, "1");
        BENCH.breaks(x, "$1", -3, "");
        Bench.enterTimes(x, 40, "1");
        BENCH.breaks(x, "$2", -3, "2");
        Bench.enterTimes(x, 40, "1");
        BENCH.breaks(x, "$4", -3, "");
        Bench.enterTimes(x, 38, "1");
        BENCH.breaks(x, "$4", 5, "4");
    }

    private static void theThirtiethWord() {
        BENCH.about("30 words within one another: the 30th does all that others do");
        WordFoundry x = Bench.told(": $0 c v 6 . ; 3 a $0 $2", ": $1 d ? 1 - X x ~ ' $2 C ;");
        BENCH.leaves(x, "29 $1", "0 -5");
        BENCH.leaves(x, "p p 28 $1", "0 3 0");
        x = Bench.told(": $0 } ;", DOWN, ": $2 d ? 1 - X x ~ } ;", ": $3 d ? 1 - X x ~ { } ;", "8 {");
        BENCH.leaves(x, "' $0 C 28 ' $1 C 29 ' $2 C", "-6 28 -6 29 -6");
        BENCH.same("second", x.second(), 1);
        BENCH.leaves(x, "p p p p p 29 $3", "0");
        BENCH.breaks(x, "29 $2", -6, Bench.times(30, "2"));
        x = Bench.told(": $0 c v 6 ; $0 $2", ": $1 d ? 1 - X x ~ 7 $2 ;");
        BENCH.breaks(x, "29 $1", -5, Bench.times(30, "2"));
        Bench.enterTimes(x, 37, "1");
        BENCH.breaks(x, "29 $1", -5, Bench.times(30, "2"));
        Bench.enterTimes(x, 38, "1");
        BENCH.breaks(x, "29 $1", -3, Bench.times(30, "2"));
    }

    private static void levelsComeBack() {
        BENCH.about("What runs a word goes on behind it");
        WordFoundry x = Bench.told(": $0 ;", DOWN, ": $2 28 $1 28 $1 ; : $3 27 $1 27 $1 28 1 C 27 $1 ;");
        BENCH.leaves(x, "28 $1 28 $1 28 $1", "");
        BENCH.breaks(x, "$2", -5, Bench.times(29, "1") + " 2");
        BENCH.leaves(x, "$3", "28 -5");
    }

    private static void moreOnTheSecond() {
        BENCH.about("if a word ends with more .. on the second stack than as it began, error -25");
        WordFoundry x = Bench.told(": $0 { ; : $1 { { } ; : $2 { } ; : $3 { { } } ; : $4 2 { $2 } ; : $5 1 $0 } ;");
        BENCH.breaks(x, "1 $0", -25, "0");
        BENCH.breaks(x, "1 2 $1", -25, "1");
        BENCH.leaves(x, "1 $2", "1");
        BENCH.leaves(x, "2 $3", "1 2");
        BENCH.leaves(x, "$4", "1 2 2");
        BENCH.breaks(x, "$5", -25, "0 5");
        BENCH.leaves(x, "1 { 5 6 { 7 $2", "5 7");
        BENCH.same("out of all words there is no end", x.second(), 2);
        BENCH.leaves(x, "' $5 C", "5 7 -25");
    }

    private static void fewerOnTheSecond() {
        BENCH.about("if a word ends with .. fewer on the second stack than as it began, error -25, but } says -6 first");
        WordFoundry x = Bench.told(": $0 } ; : $1 { } } { ; : $2 { 0 e } ;");
        BENCH.breaks(x, "1 { $0", -6, "0");
        BENCH.breaks(x, "1 { 2 $1", -6, "1");
        BENCH.breaks(x, "1 $2", -6, "0 2");
    }

    private static void unevenEnds() {
        BENCH.about("if a word ends with more or fewer .. error -25, however it ends");
        WordFoundry x = Bench.told(": $0 { ? x ~ } p ; : $1 c { v } p ; : $2 c v { ; $2 $5 f $6 ' $0 k $6");
        BENCH.breaks(x, "1 2 $0", -25, "0");
        BENCH.leaves(x, "0 3 $0", "");
        BENCH.breaks(x, "7 $1 $7", -25, "1");
        BENCH.breaks(x, "$5", -25, "3");
        BENCH.breaks(x, "1 2 $6", -25, "0 4");
        x = Bench.told(": $0 D x L ; : $1 D l L ; : $2 D L ;");
        BENCH.breaks(x, "2 1 $0", -25, "0");
        BENCH.leaves(x, "2 1 $1 2 1 $2", "");
    }

    private static void goesOnBehind() {
        BENCH.about("What runs a word goes on behind it, by each way of running it");
        WordFoundry x = Bench.told(": $0 1 . ; f $1 0 k $1 : $2 c v 2 . ; $2 $3", ": $4 $0 $1 $3 p 0 e 0 C p 9 . ;");
        BENCH.leaves(x, "$4", "");
        BENCH.same("outs", Bench.outs(x), "1 1 2 1 1 9");
    }

    private static void loopToTheLimit() {
        BENCH.about("L: makes the index 1 greater, and goes back behind the D if it is not the limit then");
        WordFoundry x = Bench.told(": $0 D i . L 99 . ;");
        int[][] loops = {{1, 0}, {2, 0}, {5, 4}, {0, -1}, {0, -2}, {-5, -6}, {Integer.MIN_VALUE, Integer.MAX_VALUE},
            {Integer.MIN_VALUE + 1, Integer.MAX_VALUE}, {Integer.MAX_VALUE, Integer.MAX_VALUE - 2}};
        for (int[] loop : loops) {
            int before = x.outs();
            BENCH.leaves(x, loop[0] + " " + loop[1] + " $0", "");
            int turns = loop[0] - loop[1];
            BENCH.same("turns", x.outs() - before, turns + 1);
            BENCH.same("the first index", x.outAt(before), loop[1]);
            BENCH.same("the last index", x.outAt(before + turns - 1), loop[0] - 1);
            BENCH.same("second", x.second(), 0);
        }
        BENCH.breaks(x, "3 3 $0", -90, "");
        BENCH.breaks(x, "3 4 $0", -90, "");
    }

    private static void loopsNeedTheirOwn() {
        BENCH.about("i the index, as _; L makes the index 1 greater; l drops both: none but what came since the word began");
        WordFoundry x = Bench.told(": $0 i ; : $1 D i p L ; : $2 D } p L ; : $3 D } } p p L ; : $4 D } p l 7 t L ;",
            ": $5 D } } p p l 7 t L ; : $6 D 1 { L } ; : $7 D L 8 ; : $8 D l L 8 ;");
        Bench.enter(x, "1 { 2 {");
        BENCH.leaves(x, "2 1 $1", "");
        for (int name = 2; name <= 5; name++) {
            Bench.enter(x, "1 { 2 {");
            BENCH.breaks(x, "2 1 $" + name, -6, String.valueOf(name));
            BENCH.breaks(x, "2 1 $" + name, -6, String.valueOf(name));
        }
        BENCH.breaks(x, "$0", -6, "0");
        BENCH.leaves(x, "9 2 $6", "9");
        BENCH.leaves(x, "p 2 1 $7 9 1 $8", "8 8");
    }

    private static void endOfAWord() {
        BENCH.about("x ends the word, the one that runs alone");
        WordFoundry x = Bench.told(": $0 1 . x 2 . ; : $1 $0 3 . x ; : $2 $1 4 . ; : $3 x ; : $4 ;");
        BENCH.leaves(x, "$2 $3 $4", "");
        BENCH.same("outs", Bench.outs(x), "1 3 4");
    }
}
