/** The sentences about effects and soundness that name a boundary, on both sides of it; promises 25 and 31. */
public final class BoundsOfEffectsTest {
    private static final Bench BENCH = new Bench();
    private static final int NONE = -1;

    public static void main(String[] args) {
        everyCoreWord();
        neededAndThere();
        neededBelow();
        sameHeightAtEachOp();
        sameHeightAtTheEnd();
        oneWayComesToTheEnd();
        opsToWhichNoWayComes();
        wordsWithoutAnEffect();
        wordsOfWordsWithout();
        secondStackAndThrowing();
        loops();
        constantsAndCreated();
        doingParts();
        doingPartsThatChange();
        longWords();
        entriesMadeAnew();
        effectCalls();
        soundAtFirst();
        soundWithEachKind();
        soundAtTheLimits();
        soundWithCatching();
        soundnessLeavesAll();
        BENCH.close("BoundsOfEffectsTest");
    }

    private static void due(String body, int effect) {
        WordFoundry x = Bench.told(": $0 " + body + " ;");
        BENCH.same("entries of \"" + body + "\"", x.entries(), 1);
        dueOf(x, 0, body, effect);
    }

    private static void dueOf(WordFoundry x, int entry, String what, int effect) {
        if (effect == NONE) {
            BENCH.fails("the effect of \"" + what + "\"", UnsupportedOperationException.class, () -> x.effect(entry));
        } else {
            BENCH.same("the effect of \"" + what + "\"", x.effect(entry), effect);
        }
        BENCH.same("soundness of \"" + what + "\"", x.isSound(), true);
    }

    private static void everyCoreWord() {
        BENCH.about("The effect .. is how many numbers it needs on the stack, and how many are there then");
        String words = "dpsor+-*/%<=.{}_ha,@#tIWOi";
        int[] effects = {102, 100, 202, 203, 303, 201, 201, 201, 201, 201, 201, 201, 100, 100, 1, 1, 1, 100, 100,
            101, 200, 100, 0, 100, 100, 1};
        for (int i = 0; i < words.length(); i++) {
            due(String.valueOf(words.charAt(i)), effects[i]);
            int needs = effects[i] / 100;
            due("1 " + words.charAt(i), Math.max(0, needs - 1) * 100 + effects[i] % 100 + (needs == 0 ? 1 : 0));
        }
    }

    private static void neededAndThere() {
        BENCH.about("how many are there then in place of these");
        due("", 0);
        due("1", 1);
        due("1 2 3 4 5 6 7 8 9 10", 10);
        due("p p p p p p p p p p", 1000);
        due("p 1", 101);
        due("1 p", 0);
        due("1 p p", 100);
        due("p p 1 2 3", 203);
        due("p 1 p p 2", 201);
        due("d p", 101);
        due("s s", 202);
        due("r r r", 303);
        due("o", 203);
        due("1 o", 103);
        due("1 2 o", 3);
        due("+ + +", 401);
        due("h h h", 3);
        due("D l L", 200);
    }

    private static void neededBelow() {
        BENCH.about("how many numbers it needs: those far below too");
        due("1 1 1 p p p p", 100);
        due("1 1 + p p", 100);
        due("d d d p p p p", 100);
        due("1 2 r p p p", 100);
        due("1 2 r", 103);
        due("1 2 3 r", 3);
        due("p 1 2 r", 203);
        due("? p | p ~ +", 401 - 100 + 100);
        due("? 1 p | s ~", 302);
        due("? s | 1 p ~", 302);
        due("? 1 p | 1 p ~", 100);
    }

    private static void sameHeightAtEachOp() {
        BENCH.about("if each way through its ops comes to each op with the same height");
        due("? 1 | 2 ~ 3", 102);
        due("? 1 | ~ 3", NONE);
        due("? | 1 ~ 3", NONE);
        due("? p | p ~ 3", 201);
        due("? p | p p ~ 3", NONE);
        due("b 1 u", 0);
        due("b 1 1 u", NONE);
        due("b u", NONE);
        due("b d u", 101);
        due("b 1 w g", 0);
        due("b 1 1 w g", NONE);
        due("b 1 w p g", NONE);
        due("b d w 1 g", NONE);
        due("b d w 1 p g", 101);
        due("D 1 L p", NONE);
        due("D 1 p L", 200);
        due("D p L", NONE);
    }

    private static void sameHeightAtTheEnd() {
        BENCH.about("and to its end with the same");
        due("? 1 x ~ 1", 101);
        due("? 1 x ~", NONE);
        due("? x ~", 100);
        due("? x ~ 1", NONE);
        due("? x | x ~", 100);
        due("? 1 x | 2 x ~", 101);
        due("? 1 x | x ~", NONE);
        due("? 1 x | x ~ 2", NONE);
        due("? 1 ~", NONE);
        due("? 1 p ~", 100);
        due("D x L", 200);
        due("D 1 x L", 201);
        due("D 1 ? 5 x ~ L", NONE);
        due("D 1 ? 5 x ~ L 1", 201);
    }

    private static void oneWayComesToTheEnd() {
        BENCH.about("and one way comes there");
        due("b 1 w x g", 0);
        due("b 1 ? x ~ 1 p 1 ? ~ 0 u", 0);
        due("? b g", 100);
        due("? | b g", 100);
        due("1 ? b g", 0);
        due("1 ? b g 5", 1);
        due("1 ? b 7 g", NONE);
        due("1 ? 7 b g 5", 1);
        due("1 ? x | 1 ? b g ~", 0);
        due("b 0 w 1 p g", 0);
        due("D 1 ? l | b g L", 200);
    }

    private static void opsToWhichNoWayComes() {
        BENCH.about("words with e, C .. have none, if a way comes to such an op");
        for (String word : new String[] {"e", "C", "X", "v", "P $0", "P d", "P ?", "]", "c", "K", "f", "m", ":", "k"}) {
            WordFoundry x = Bench.told("c $0 : $1 1 1 " + word + " ; : $2 x " + word + " ;");
            BENCH.same("entries", x.entries(), 3);
            dueOf(x, 1, "a way comes to " + word, NONE);
            dueOf(x, 2, "no way comes to " + word, 0);
            if (!word.equals("v")) {
                Bench.enter(x, ": $3 ? x " + word + " ~ ; : $4 1 ? x " + word + " ~ ; : $5 1 ? " + word + " ~ ;");
                BENCH.same("entries", x.entries(), 6);
                dueOf(x, 3, "no way comes to " + word, 100);
                dueOf(x, 4, "no way comes to " + word, 0);
                dueOf(x, 5, "a way comes to " + word, NONE);
            }
        }
    }

    private static void wordsWithoutAnEffect() {
        BENCH.about("a deferred word, a marker, or a word without an effect, have none");
        WordFoundry x = Bench.told("7 K $0 f $1 0 k $1 m $2 : $3 $1 ; : $4 $2 ; : $5 x $1 $2 ;");
        int[] effects = {1, NONE, NONE, NONE, NONE, 0};
        for (int entry = 0; entry < effects.length; entry++) {
            dueOf(x, entry, "entry " + entry, effects[entry]);
        }
        Bench.enter(x, ": $6 $3 ; : $7 $5 ; : $8 $0 ; : $9 ' $1 ;");
        dueOf(x, 6, "a word without an effect", NONE);
        dueOf(x, 7, "a word with an effect", 0);
        dueOf(x, 8, "a constant", 1);
        dueOf(x, 9, "the number of a deferred one", 1);
    }

    private static void wordsOfWordsWithout() {
        BENCH.about("a word without an effect, have none, however far below");
        WordFoundry x = Bench.told(": $0 e ;");
        for (int entry = 1; entry < 30; entry++) {
            Bench.enter(x, ": $0 $0 ;");
            dueOf(x, entry, "entry " + entry, NONE);
        }
        x = Bench.told(": $0 + ;");
        for (int entry = 1; entry < 30; entry++) {
            Bench.enter(x, ": $0 $0 + ;");
            dueOf(x, entry, "entry " + entry, 100 * (entry + 2) + 1);
        }
    }

    private static void secondStackAndThrowing() {
        BENCH.about("the second stack and what throws are not looked at, so that } and _ give one more, and t goes on");
        due("}", 1);
        due("_", 1);
        due("i", 1);
        due("{", 100);
        due("{ {", 200);
        due("{ }", 101);
        due("} }", 2);
        due("t", 100);
        due("5 t", 0);
        due("5 t 6", 1);
        due("1 0 / p 100 @", 1);
        due("? 5 t | 1 p ~", 100);
        due("? 5 t | 1 ~", NONE);
        due("2 W 2 O", 0);
        due("101 a", 0);
        due("I I", 0);
    }

    private static void loops() {
        BENCH.about("D an op that takes limit and index; L .. goes back behind the D .., and else drops both");
        due("D L", 200);
        due("3 0 D L", 0);
        due("3 0 D i . L", 0);
        due("3 0 D i L", NONE);
        due("3 0 D i 1 = ? l ~ L", 0);
        due("3 0 D i 1 = ? 5 l ~ L", NONE);
        due("3 0 D i 1 = ? 5 l ~ L 5", NONE);
        due("3 0 D l p L", 0);
        due("3 0 D 1 ? l ~ L 5", 1);
        due("3 0 D 3 0 D L L", 0);
        due("D D L L", NONE);
    }

    private static void constantsAndCreated() {
        BENCH.about("A constant and a created word give one more");
        WordFoundry x = Bench.told("7 K $0 c $1 : $2 $0 $1 + ; : $3 p $0 ; : $4 ; I : $5 P $4 ;");
        int[] effects = {1, 1, 1, 101, 0, 0};
        for (int entry = 0; entry < effects.length; entry++) {
            dueOf(x, entry, "entry " + entry, effects[entry]);
        }
    }

    private static void doingParts() {
        BENCH.about("a created word with a doing part has the effect of this part with its address on the stack");
        String[] parts = {"", "@", "p", "p p", "+", "#", "d", "s", "r", "1", "? 1 | 2 ~", "? 1 ~", "e", "x e", "v", "X",
            "b d w p 0 g", "p 5 t", "+ +", "o", "p ? ~", "p ? 1 ~"};
        int[] effects = {1, 1, 0, 100, 101, 100, 2, 102, 203, 2, 1, NONE, NONE, 1, NONE, NONE, 1, 0, 201, 103, 100, NONE};
        for (int i = 0; i < parts.length; i++) {
            WordFoundry x = Bench.told(": $0 c v " + parts[i] + " ; $0 $1 : $2 $1 ;");
            BENCH.same("entries", x.entries(), 3);
            dueOf(x, 0, "the making part of " + parts[i], NONE);
            dueOf(x, 1, parts[i], effects[i]);
            dueOf(x, 2, "a word with " + parts[i], effects[i]);
        }
    }

    private static void doingPartsThatChange() {
        BENCH.about("the effect of this part: the one that it has now");
        WordFoundry x = Bench.told(": $0 v p ; : $1 v 1 2 ; : $2 v e ; c $3");
        dueOf(x, 3, "no doing part", 1);
        Bench.enter(x, "$0");
        dueOf(x, 3, "p", 0);
        Bench.enter(x, "$1");
        dueOf(x, 3, "1 2", 3);
        Bench.enter(x, "$2");
        dueOf(x, 3, "e", NONE);
        Bench.enter(x, "$0");
        dueOf(x, 3, "p", 0);
        Bench.enter(x, "c $4 m $5 $2 p");
        dueOf(x, 3, "p", 0);
        dueOf(x, 4, "no doing part", 1);
    }

    private static void longWords() {
        BENCH.about("through its ops: all 40 of them");
        WordFoundry x = Bench.told(": $0");
        Bench.enterTimes(x, 40, "1");
        Bench.enter(x, "; : $1");
        Bench.enterTimes(x, 40, "p");
        Bench.enter(x, "; : $2 $0 $0 ; : $3 $1 $1 $1 ; : $4 $1 $0 ; : $5 $0 $1 ;");
        dueOf(x, 0, "forty numbers", 40);
        dueOf(x, 1, "forty p", 4000);
        dueOf(x, 2, "eighty numbers", 80);
        dueOf(x, 3, "120 p", 12000);
        dueOf(x, 4, "forty p and forty numbers", 4040);
        dueOf(x, 5, "forty numbers and forty p", 0);
        x = Bench.told(": $0");
        Bench.enterTimes(x, 40, "?");
        Bench.enterTimes(x, 40, "~");
        Bench.enter(x, ";");
        dueOf(x, 0, "forty ways to the end that differ", NONE);
        x = Bench.told(": $0");
        Bench.enterTimes(x, 20, "1 ?");
        Bench.enterTimes(x, 20, "~");
        Bench.enter(x, ";");
        dueOf(x, 0, "twenty ways to the end", 0);
    }

    private static void entriesMadeAnew() {
        BENCH.about("The effect of an entry: of the one that has the number now");
        String[] makes = {": $1 + + ;", "7 K $1", "c $1", ": $1 1 2 ;", "f $1", "7 K $1", ": $1 e ;", "c $1", ": $1 ;"};
        int[] effects = {301, 1, 1, 2, NONE, 1, NONE, 1, 0};
        WordFoundry x = new WordFoundry();
        for (int i = 0; i < makes.length; i++) {
            Bench.enter(x, "m $0 " + makes[i]);
            dueOf(x, 1, makes[i], effects[i]);
            Bench.enter(x, "$0");
        }
        x = Bench.told(": $0 ? 5 | e ~ ; : $1 x e ; : $2 ? 5 | e ~ ; : $3 x ;");
        dueOf(x, 0, "a way that has none", NONE);
        dueOf(x, 1, "behind a word that has none", 0);
        dueOf(x, 3, "behind a word that has none", 0);
    }

    private static void effectCalls() {
        BENCH.about("effect: IndexOutOfBoundsException if there is no such entry, UnsupportedOperationException "
            + "if it has none");
        WordFoundry x = Bench.told(": $0 e ; : $1 ;");
        BENCH.fails("effect 0", UnsupportedOperationException.class, () -> x.effect(0));
        BENCH.same("effect 1", x.effect(1), 0);
        for (int entry : new int[] {-1, 2, 29, 30, Integer.MIN_VALUE, Integer.MAX_VALUE}) {
            BENCH.fails("effect " + entry, IndexOutOfBoundsException.class, () -> x.effect(entry));
        }
        Bench.enter(x, ": $2 +");
        BENCH.fails("what is being made", IndexOutOfBoundsException.class, () -> x.effect(2));
    }

    private static void soundAtFirst() {
        BENCH.about("isSound: Checks each entry that is not immediate");
        BENCH.same("no entry", new WordFoundry().isSound(), true);
        BENCH.same("an immediate one", Bench.told(": $0 5 t ; I").isSound(), true);
        BENCH.same("one that is not", Bench.told(": $0 5 t ;").isSound(), true);
        WordFoundry x = new WordFoundry();
        for (int entry = 0; entry < 30; entry++) {
            Bench.enter(x, ": $0 d ? 1 - X x ~ " + entry + " . ;");
            BENCH.same("with entries", x.isSound(), true);
        }
        for (int depth = 0; depth < 20; depth++) {
            Bench.enter(x, String.valueOf(depth));
            BENCH.same("with numbers", x.isSound(), true);
        }
    }

    private static void soundWithEachKind() {
        BENCH.about("it comes to the same stacks, cells, outputs and error with explicit frames and by recursion");
        String[] bodies = {"1 2 + .", "5 , 6 99 #", "1 { 2 {", "1 { 2 } {", "D i . L", "3 0 D i , L", "3 0 D i 1 = ? l ~ L",
            "5 t", "0 /", "100 @", "c", "K", "f", "m", ":", "k", "I", "1 W 1 O 2 W", "] [ h", "P d", "P ? P ~", "P ;",
            "P [ P '", "X", "d ? X ~", "e", "C", "v", "x", "b 0 u", "_", "}", "i", "a", "? 1 | 2 ~", "1 X"};
        WordFoundry x = new WordFoundry();
        for (String body : bodies) {
            Bench.enter(x, ": $0 " + (body.equals("] [ h") ? "h" : body) + " ;");
            if (x.entries() == 30) {
                x = Bench.told("f $0 : $1 3 . ; 1 k $0 7 K $2 c $3 : $4 c v . ;", "$4 $5 m $6 f $7 : $8 $6 ; : $9 $0 $5 $7 ;");
            }
            BENCH.same("behind " + body, x.isSound(), true);
        }
        for (String numbers : new String[] {"0", "1", "-1 0", "5 1 2", "9 5", "3 3 3 3"}) {
            Bench.enter(x, numbers);
            BENCH.same("with " + numbers, x.isSound(), true);
        }
    }

    private static void soundAtTheLimits() {
        BENCH.about("isSound: run with .. 150 steps, and at most 30 words within one another");
        WordFoundry x = Bench.told(": $0 b 1 - d 0 = u . ; : $1 X ; f $2 2 k $2 : $3 d ? 1 - X ~ ; : $4 b 1 . 0 u ;");
        for (int n = 28; n < 33; n++) {
            WordFoundry y = Bench.told(": $0 b 1 - d 0 = u . ; : $3 d ? 1 - X ~ ; : $4 $0 $0 ;", String.valueOf(n));
            BENCH.same("about 150 steps and 30 words", y.isSound(), true);
        }
        BENCH.same("beyond both", x.isSound(), true);
        for (int n = 26; n < 31; n++) {
            for (String make : new String[] {"7 K $0", "c $0", "f $0", "m $0", ": $0 ;", "f $0 0 k $0", "f $0 : $1 c v 6 ; $1 $0"}) {
                WordFoundry y = Bench.told(make, ": $2 d ? 1 - X x ~ $0 ; : $3 d ? 1 - X x ~ ' $0 C ;", "f $4 ' $0 k $4",
                    ": $5 d ? 1 - X x ~ $4 ;", String.valueOf(n));
                BENCH.same("the 30th word runs " + make, y.isSound(), true);
            }
        }
        WordFoundry z = Bench.told(": $0 " + Bench.times(18, "d .") + " ;", ": $1 5 " + Bench.times(12, "$0") + " ;");
        BENCH.same("many outputs", z.isSound(), true);
        Bench.enterTimes(z, 40, "7");
        BENCH.same("a full stack", z.isSound(), true);
        BENCH.same("outs", z.outs(), 0);
    }

    private static void soundWithCatching() {
        BENCH.about("the same stacks, cells, outputs and error .. by recursion: with C too");
        WordFoundry x = Bench.told(": $0 8 { 9 5 t ; : $1 0 C . ; : $2 1 C . ; : $3 d ? 1 - 3 C . ~ X ;",
            ": $4 b 0 u ; : $5 4 C 7 . ; : $6 p p 0 C } ; : $7 1 { 0 C } ;", ": $8 -90 t ; : $9 8 C . ; : $9 50 C . C ;");
        BENCH.same("entries", x.entries(), 11);
        BENCH.same("with an empty stack", x.isSound(), true);
        WordFoundry y = Bench.told(": $0 8 { 9 5 t ; : $1 1 { 2 0 C p p } p ; f $2 1 k $2", ": $3 3 { $2 } ; : $4 3 C . ;",
            ": $5 c v 1 C 1 { } t ; $5 $6 f $7 ' $6 k $7 : $8 $7 ;");
        BENCH.same("entries", y.entries(), 9);
        BENCH.same("with deferred and created ones", y.isSound(), true);
        for (String numbers : new String[] {"3", "0", "1 2", "0 3", "4"}) {
            Bench.enter(x, numbers);
            BENCH.same("with " + numbers, x.isSound(), true);
        }
    }

    private static void soundnessLeavesAll() {
        BENCH.about("isSound: .. all copied");
        WordFoundry x = Bench.told(": $0 5 , 6 . 7 { ; : $1 1 W 1 O I ; m $2 f $3 1 k $3 : $4 c ; : $5 p p ; : $6 3 2 k ;",
            "1 { 8 9", ": $7 ?");
        int[] before = figures(x);
        BENCH.same("sound", x.isSound(), true);
        int[] behind = figures(x);
        for (int i = 0; i < before.length; i++) {
            BENCH.same("figure " + i, behind[i], before[i]);
        }
        BENCH.same("the mark stays", Bench.enter(x, "~ ; 4 C $8"), 'o');
        BENCH.same("kind", x.kindOf(8), 'c');
        BENCH.same("vocabulary", x.vocabularyOf(8), 0);
        BENCH.leaves(x, "$2", "8 9 0");
        BENCH.same("entries", x.entries(), 2);
    }

    private static int[] figures(WordFoundry x) {
        return new int[] {x.depth(), x.second(), x.here(), x.outs(), x.entries(), x.lines(), (int) x.steps(), x.at(0),
            x.at(1), x.isMaking() ? 1 : 0, x.isImmediate(x.entries() - 1) ? 1 : 0, x.find(1), x.cell(0), x.trace()};
    }
}
