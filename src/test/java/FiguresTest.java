/** Promises 27 to 31: the figures over all lines, and soundness. */
public final class FiguresTest {
    private static final Bench BENCH = new Bench();

    public static void main(String[] args) {
        without();
        steps();
        shares();
        soundness();
        soundnessChangesNothing();
        soundnessInTheMiddle();
        BENCH.close("FiguresTest");
    }

    private static void without() {
        WordFoundry x = new WordFoundry();
        BENCH.fails("errorShare", ArithmeticException.class, () -> x.errorShare());
        BENCH.fails("meanSteps", ArithmeticException.class, () -> x.meanSteps());
        x.number(1);
        BENCH.fails("errorShare", ArithmeticException.class, () -> x.errorShare());
        BENCH.fails("meanSteps", ArithmeticException.class, () -> x.meanSteps());
        x.enter();
        BENCH.same("errorShare", x.errorShare(), 0.0);
        BENCH.same("meanSteps", x.meanSteps(), 1.0);
    }

    private static void steps() {
        String[] lines = {"", "1 2 +", ": $0 d * ;", "3 $0", "' $0 e", "c $1 f $2 k $2", "p", "p p p", "$9", "] 4",
            ": $3 P ? P ~ [ T ] ;", ": $4 D L ;", "5 K $5", "$5 3 1 $4", "' $0 C", "f $6 0 k $6 2 $6"};
        int[] due = {0, 3, 4, 4, 4, 3, 1, 1, 1, 2, 5, 4, 2, 7, 4, 7};
        WordFoundry x = new WordFoundry();
        long all = 0;
        for (int i = 0; i < lines.length; i++) {
            Bench.enter(x, lines[i]);
            BENCH.same("steps of \"" + lines[i] + "\"", x.steps() - all, due[i]);
            all = x.steps();
            BENCH.same("lines", x.lines(), i + 1);
            BENCH.same("meanSteps", x.meanSteps(), (double) all / (i + 1));
        }
    }

    private static void shares() {
        WordFoundry x = new WordFoundry();
        int errors = 0;
        for (int line = 1; line <= 100; line++) {
            boolean wrong = line % 3 == 0;
            Bench.enter(x, wrong ? "p" : "1 p");
            errors += wrong ? 1 : 0;
            BENCH.same("errorShare", x.errorShare(), (float) errors / (float) line);
        }
        BENCH.same("lines", x.lines(), 100);
    }

    private static void soundness() {
        String[] lines = {": $0 d * ;", ": $1 ? 1 | 2 ~ ;", ": $2 D i . L ;", ": $3 e ;", ": $4 C . ;", ": $5 X ;",
            ": $6 { ;", ": $7 c v @ ;", ": $8 : ;", ": $9 b 0 u ;", "f $10 ' $10 k $10", "m $11", ": $12 0 / ;",
            ": $13 1 K ;", ": $14 P ? P ; ;", "7 K $15", "c $0", ": $1 ] ' $0 ;", ": $2 1 W 0 O I ;", ": $3 5 , 9 0 # ;"};
        WordFoundry x = new WordFoundry();
        for (String line : lines) {
            BENCH.same(line, Bench.enter(x, line), 'o');
            BENCH.same("soundness behind " + line, x.isSound(), true);
        }
        for (String numbers : new String[] {"1", "0 5", "3 2 1", "9 2 1 0 3 4", "-1 -1"}) {
            Bench.enter(x, numbers);
            BENCH.same("soundness with more numbers", x.isSound(), true);
        }
    }

    private static void soundnessChangesNothing() {
        WordFoundry x = Bench.told(": $0 5 , 6 . 7 { ; : $1 c ; m $2 f $3 ' $2 k $3 : $4 1 W 1 O I ;", "8 { 1 2 3");
        String before = state(x);
        for (int i = 0; i < 20; i++) {
            BENCH.same("sound", x.isSound(), true);
        }
        BENCH.same("the state behind isSound", state(x), before);
        Bench.enter(x, "c $5 $2 1");
        BENCH.same("the system goes on as before", Bench.stack(x), "1 2 3 1");
        BENCH.same("entries", x.entries(), 2);
        Bench.put(x, "$1");
        BENCH.same("the line is not read", x.isSound(), true);
        BENCH.same("the line stays", x.number(1), 2);
    }

    private static void soundnessInTheMiddle() {
        WordFoundry x = Bench.told(": $0 P ~ ; m $2", ": $1 ? b");
        BENCH.same("sound while a word is being made", x.isSound(), true);
        BENCH.same("making", x.isMaking(), true);
        BENCH.same("the marks stay", Bench.enter(x, "0 u ~ ;"), 'o');
        BENCH.same("ops", Bench.ops(x, 2), "z3 n0 z1");
    }

    private static String state(WordFoundry x) {
        StringBuilder text = new StringBuilder();
        text.append(Bench.stack(x)).append('/').append(x.second()).append('/').append(x.here());
        text.append('/').append(Bench.outs(x)).append('/').append(x.steps()).append('/').append(x.lines());
        text.append('/').append(x.isMaking()).append('/').append(x.trace()).append('/').append(Bench.errorOf(x));
        for (int entry = 0; entry < x.entries(); entry++) {
            text.append('/').append(x.nameOf(entry)).append(x.kindOf(entry)).append(x.vocabularyOf(entry));
            text.append(x.isImmediate(entry)).append(Bench.ops(x, entry));
        }
        for (int address = 0; address < 100; address++) {
            text.append(' ').append(x.cell(address));
        }
        return text.toString();
    }
}
