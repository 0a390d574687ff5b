/** Promises 5 to 8: running words within one another, throwing, catching, and the limits of a line. */
public final class ThrowingTest {
    private static final Bench BENCH = new Bench();

    public static void main(String[] args) {
        running();
        throwing();
        catching();
        catchingTheStacks();
        catchingWithin();
        catchingErrors();
        whatStaysBehindACatch();
        levels();
        levelsOfAllKinds();
        steps();
        stepsAreNotCaught();
        unevenSecondStack();
        errorsInTheMiddle();
        BENCH.close("ThrowingTest");
    }

    private static void running() {
        WordFoundry x = Bench.told(": $0 7 ; 8 K $1 c $2");
        BENCH.leaves(x, "0 e 1 e 2 e", "7 8 0");
        BENCH.leaves(x, "p p p ' $0 e", "7");
        BENCH.breaks(x, "3 e", -13, "");
        BENCH.breaks(x, "-1 e", -13, "");
        BENCH.breaks(x, "2147483647 e", -13, "");
        BENCH.breaks(x, "e", -4, "");
        Bench.enter(x, ": $3 e 1 ;");
        BENCH.leaves(x, "0 $3", "7 1");
        BENCH.breaks(x, "9 $3", -13, "3");
        BENCH.breaks(x, "p p p $3", -4, "");
        BENCH.breaks(x, "$3", -4, "3");
        BENCH.breaks(x, "3 3 3 $3", -4, "3 3 3 3");
    }

    private static void throwing() {
        WordFoundry x = Bench.told(": $0 t 5 . ;");
        BENCH.leaves(x, "0 $0 0 t", "");
        BENCH.breaks(x, "1 2 3 $0 6 .", 3, "0");
        BENCH.breaks(x, "-3 t", -3, "");
        BENCH.same("outs", Bench.outs(x), "5");
        BENCH.breaks(x, "t", -4, "");
    }

    private static void catching() {
        WordFoundry x = Bench.told(": $0 t ; : $1 7 ; 8 K $2 c $3");
        BENCH.leaves(x, "5 ' $0 C", "5 5");
        BENCH.leaves(x, "p p 0 ' $0 C", "0");
        BENCH.leaves(x, "p ' $1 C", "7 0");
        BENCH.leaves(x, "p p ' $2 C ' $3 C", "8 0 0 0");
        BENCH.breaks(x, "p p p p C", -4, "");
        BENCH.same("the error is gone", Bench.enter(x, "5 ' $0 C"), 'o');
        BENCH.same("no error", Bench.errorOf(x), 0);
        BENCH.leaves(x, "p p 9 C -1 C", "-13 -13");
    }

    private static void catchingTheStacks() {
        WordFoundry x = Bench.told(": $0 p p 8 { 9 { 6 7 t ;");
        BENCH.leaves(x, "1 { 2 3 ' $0 C", "2 3 7");
        BENCH.same("second", x.second(), 1);
        BENCH.leaves(x, "}", "2 3 7 1");
        x = Bench.told(": $0 } 7 t ; : $1 1 { 2 { ' $0 C } } ;");
        BENCH.leaves(x, "$1", "-6 2 1");
        x = Bench.told(": $0 p p p 1 2 3 4 5 6 7 8 9 9 t ;");
        BENCH.leaves(x, "11 12 13 14 ' $0 C", "11 12 13 14 9");
        StringBuilder many = new StringBuilder();
        for (int i = 0; i < 38; i++) {
            many.append(i).append(' ');
        }
        x = Bench.told(": $0 1 2 3 ; : $1 1 ; : $2 C ;", many.toString());
        BENCH.same("a full stack", Bench.enter(x, "' $0 C"), 'o');
        BENCH.same("the error", x.at(0), -3);
        BENCH.same("depth", x.depth(), 39);
        BENCH.leaves(x, "p ' $1 C p", many + "1");
        BENCH.breaks(x, "' $1 C", -3, "");
        x = Bench.told(": $0 1 ; : $1 C ;", many.toString());
        BENCH.breaks(x, "0 0 $1", -3, "1");
    }

    private static void catchingWithin() {
        WordFoundry x = Bench.told(": $0 5 t ; : $1 ' $0 C 1 + t ; : $2 ' $1 C 9 ;", ": $3 ' $2 C ;");
        BENCH.leaves(x, "$2", "6 9");
        BENCH.leaves(x, "$3", "6 9 6 9 0");
        BENCH.breaks(x, "$1", 6, "1");
        BENCH.leaves(x, "' $1 C", "6");
        x = Bench.told(": $0 t ; : $1 ' $0 C . 77 t ; : $2 $1 ;");
        BENCH.leaves(x, "3 ' $2 C", "3 77");
        BENCH.same("outs", Bench.outs(x), "3");
        x = Bench.told("f $0 : $1 5 t ; ' $1 k $0 : $2 c v 6 t ; $2 $3");
        BENCH.leaves(x, "' $0 C ' $3 C", "5 6");
        x = Bench.told(": $0 5 t ; : $1 ' $0 C p ' $0 C p 3 t ;");
        BENCH.breaks(x, "$1", 3, "1");
    }

    private static void catchingErrors() {
        WordFoundry x = Bench.told(": $0 } ; : $1 0 / ; : $2 100 @ ; : $3 101 a ; : $4 c ; : $5 2 W ; : $6 { ;",
            ": $7 50 e ; : $8 v ; : $9 P . ; f $10 : $11 P g ; : $12 1 k ;");
        int[] errors = {-6, -10, -9, -8, -16, -24, -25, -13, -31, -14, -13, -14, -16};
        for (int entry = 0; entry < errors.length; entry++) {
            BENCH.leaves(x, "1 " + entry + " C", "1 " + errors[entry]);
            Bench.enter(x, "p p");
        }
        BENCH.leaves(x, "' $12 C $0", "-32");
    }

    private static void whatStaysBehindACatch() {
        WordFoundry x = Bench.told(": $0 5 , 6 . c 1 W 7 t ; : $2 : 7 t ;");
        BENCH.leaves(x, "' $0 C $1 $1", "7 1");
        BENCH.same("cell", x.cell(0), 5);
        BENCH.same("here", x.here(), 1);
        BENCH.same("outs", Bench.outs(x), "6");
        BENCH.same("entries", x.entries(), 3);
        BENCH.same("the word is being made", Bench.enter(x, "' $2 C $4 9 ;"), 'o');
        BENCH.same("ops", Bench.ops(x, 3), "n9");
        BENCH.same("the vocabulary told stays", x.vocabularyOf(3), 1);
    }

    private static void levels() {
        WordFoundry x = Bench.told(": $0 d ? 1 - X 0 ~ ;");
        BENCH.leaves(x, "29 $0", "0".concat(" 0".repeat(29)));
        x = Bench.told(": $0 d ? 1 - X | p ~ ;");
        BENCH.leaves(x, "29 $0", "");
        BENCH.breaks(x, "30 $0", -5, "0 ".repeat(30).trim());
        BENCH.leaves(x, "30 ' $0 C", "30 -5");
        BENCH.leaves(x, "p p 29 ' $0 C", "0");
        x = Bench.told(": $0 d ? 1 - X x ~ 9 C ;");
        BENCH.leaves(x, "29 $0", "0 -13");
        x = Bench.told("5 K $1 : $0 d ? 1 - X x ~ ' $1 e ;");
        BENCH.leaves(x, "29 $0", "0 5");
        x = Bench.told("3 a c $1 : $0 d ? 1 - X x ~ $1 ;");
        BENCH.leaves(x, "29 $0", "0 3");
        x = Bench.told("f $1 : $0 d ? 1 - X x ~ $1 ;");
        BENCH.breaks(x, "29 $0", -13, "1 ".repeat(30).trim());
        x = Bench.told(": $1 5 ; : $0 d ? 1 - X x ~ ' $1 C ;");
        BENCH.leaves(x, "29 $0", "0 -5");
        BENCH.leaves(x, "p p 28 $0", "0 5 0");
    }

    private static void levelsOfAllKinds() {
        WordFoundry x = Bench.told("f $1 : $2 c v d 1 = ? 5 ~ ; : $0 d ? 1 - X x ~ $1 ; 8 K $3 : $4 ;");
        BENCH.leaves(x, "' $3 k $1 28 $0", "0 8");
        BENCH.breaks(x, "29 $0", -5, "2 ".repeat(30).trim());
        BENCH.leaves(x, "' $4 k $1 27 $0", "0");
        BENCH.breaks(x, "28 $0", -5, "0 " + "2 ".repeat(29).trim());
        BENCH.leaves(x, "$2 $5 ' $5 k $1 27 $0", "0 0");
        BENCH.breaks(x, "28 $0", -5, "0 " + "2 ".repeat(29).trim());
        BENCH.leaves(x, "' $5 C", "0 0");
    }

    private static void steps() {
        WordFoundry x = Bench.told(": $0 b 0 u ;");
        BENCH.breaks(x, "$0", -90, "");
        BENCH.same("steps", x.steps(), 5 + 1000);
        x = Bench.told(": $0 b d w 1 - g ;");
        long before = x.steps();
        BENCH.leaves(x, "199 $0", "0");
        BENCH.same("steps of 199 turns", x.steps() - before, 2 + 199 * 5 + 2);
        before = x.steps();
        BENCH.leaves(x, "p 199 $0", "0");
        BENCH.same("1000 steps are made", x.steps() - before, 1000);
        before = x.steps();
        BENCH.breaks(x, "p 199 $0 1", -90, "");
        BENCH.same("the step behind 1000 is not made", x.steps() - before, 1000);
        before = x.steps();
        BENCH.breaks(x, "199 $0 ' $9", -13, "");
        BENCH.same("the step 1000 is made", x.steps() - before, 1000);
    }

    private static void stepsAreNotCaught() {
        WordFoundry x = Bench.told(": $0 b 0 u ; : $1 ' $0 C 7 . ; : $2 -90 t ;");
        BENCH.breaks(x, "$1", -90, "");
        BENCH.breaks(x, "' $0 C", -90, "");
        BENCH.breaks(x, "0 0 /", -10, "");
        BENCH.same("nothing goes on", x.outs(), 0);
        BENCH.leaves(x, "' $2 C", "-90");
        BENCH.leaves(x, "p 5", "5");
        BENCH.breaks(x, "$1", -90, "");
        BENCH.leaves(x, "' $2 C", "-90");
    }

    private static void unevenSecondStack() {
        WordFoundry x = Bench.told(": $0 D L ;", ": $1 1 { ; : $2 $1 2 ; : $3 D x L ;");
        BENCH.breaks(x, "$2", -25, "1 2");
        BENCH.breaks(x, "5 1 $3", -25, "3");
        BENCH.leaves(x, "' $1 C ' $2 C", "-25 -25");
        BENCH.same("second", x.second(), 0);
        x = Bench.told(": $0 { d } ; : $1 c { v } ;");
        BENCH.leaves(x, "1 2 $0", "1 1 2");
        BENCH.breaks(x, "$1 $2", -25, "1");
        x = Bench.told(": $0 D L L ;");
        BENCH.same("a mark for each L", x.error(), -22);
        x = Bench.told(": $0 D 1 ? l ~ L ; : $1 { 2 0 $0 } ;");
        BENCH.leaves(x, "7 $1", "7");
    }

    private static void errorsInTheMiddle() {
        WordFoundry x = Bench.told("5 { 6", ": $0 7 , c d 0 0 / ; 1 W");
        BENCH.breaks(x, "8 . $0 $1 9 .", -10, "0");
        BENCH.same("outs", Bench.outs(x), "8");
        BENCH.same("here", x.here(), 1);
        BENCH.same("entries", x.entries(), 2);
        BENCH.same("vocabulary", x.vocabularyOf(1), 1);
        BENCH.same("the rest of the line is gone", x.number(3), 1);
        BENCH.leaves(x, "", "3");
    }
}
