/** Promise 25: the effects that are inferred. */
public final class EffectTest {
    private static final Bench BENCH = new Bench();
    private static final int NONE = -1;

    public static void main(String[] args) {
        coreWords();
        straightWords();
        branches();
        loops();
        heightsThatDiffer();
        waysThatDoNotCome();
        otherKinds();
        doingParts();
        wordsOfWords();
        wordsWithout();
        wrongEntries();
        BENCH.close("EffectTest");
    }

    private static void due(String body, int effect) {
        WordFoundry x = Bench.told(": $0 " + body + " ;");
        BENCH.same("entries of \"" + body + "\"", x.entries(), 1);
        dueOf(x, 0, body, effect);
    }

    private static void dueOf(WordFoundry x, int entry, String what, int effect) {
        if (effect == NONE) {
            BENCH.fails("the effect of \"" + what + "\"", UnsupportedOperationException.class, () -> x.effect(entry));
        } else {
            BENCH.same("the effect of \"" + what + "\"", x.effect(entry), effect);
        }
        BENCH.same("soundness of \"" + what + "\"", x.isSound(), true);
    }

    private static void coreWords() {
        String words = "dpsor+-*/%<=.{}_ha,@#tIWO";
        int[] effects = {102, 100, 202, 203, 303, 201, 201, 201, 201, 201, 201, 201, 100, 100, 1, 1, 1, 100, 100,
            101, 200, 100, 0, 100, 100};
        for (int i = 0; i < words.length(); i++) {
            due(String.valueOf(words.charAt(i)), effects[i]);
        }
        for (char word : "eC]cKfm:k".toCharArray()) {
            due(String.valueOf(word), NONE);
        }
        due("i", 1);
        due("5", 1);
        due("", 0);
    }

    private static void straightWords() {
        due("d *", 101);
        due("1 2 3", 3);
        due("p p 1", 201);
        due("+ +", 301);
        due("1 p p", 100);
        due("s p", 201);
        due("7 t", 0);
        due("{ 1 }", 102);
        due("1 0 /", 1);
        due("o o * s .", 202);
    }

    private static void branches() {
        due("? 1 | 2 ~", 101);
        due("? ~", 100);
        due("? d p ~", 201);
        due("? 1 | ~", NONE);
        due("? 1 ~", NONE);
        due("d ? 1 | 2 ~", 102);
        due("? + | p ~", 301);
        due("? p p 1 | p ~", 301);
        due("? 1 x ~ 2", 101);
        due("? x ~", 100);
        due("? x ~ 1", NONE);
        due("? 5 t 1 ~", NONE);
    }

    private static void loops() {
        due("b 1 u", 0);
        due("b d u", 101);
        due("b u", NONE);
        due("b w g", NONE);
        due("b d w g", 101);
        due("b 1 w g", 0);
        due("b 1 - d 0 = u", 101);
        due("b d w 1 - g p", 100);
        due("D L", 200);
        due("D i . L", 200);
        due("D i L", NONE);
        due("D 1 + L", 301);
        due("D i 3 = ? l ~ L", 200);
        due("D i ? 1 l ~ L", NONE);
        due("D i ? 1 l ~ 1 p L 1 p", NONE);
        due("D 0 ? l ~ L 5", 201);
        due("D l L", 200);
        due("D x L", 200);
        due("D D L L", NONE);
        due("D 2 1 D L L", 200);
        due("D } p } p 2 1 { { L", 200);
    }

    private static void heightsThatDiffer() {
        due("1 ? 1 2 | 3 ~ p", NONE);
        due("b 1 1 u", NONE);
        due("b p 1 u", NONE);
        due("1 b p 1 u", NONE);
        due("1 b p 1 d u", 1);
        due("1 ? x ~ 5", NONE);
    }

    private static void waysThatDoNotCome() {
        due("b 0 ? ~ 1 u", 0);
        due("x e", 0);
        due("x 1 2 3", 0);
        due("5 x C", 1);
        due("1 x X", 1);
        due("X", NONE);
        due("1 X", NONE);
        due("? X ~", NONE);
        due("? x X ~", 100);
        due("b 1 w x 1 2 g", 0);
        due("b 1 w g", 0);
        due("D l e L", 200);
        due("? 1 x | 2 ~", 101);
        due("? 1 x e | 2 ~", 101);
    }

    private static void otherKinds() {
        WordFoundry x = Bench.told("5 K $1 c $2 f $3 m $4 ' $1 k $3");
        dueOf(x, 0, "K", 1);
        dueOf(x, 1, "c", 1);
        dueOf(x, 2, "f", NONE);
        dueOf(x, 3, "m", NONE);
    }

    private static void doingParts() {
        WordFoundry x = Bench.told(": $0 c v @ ; $0 $1");
        dueOf(x, 0, "c v @", NONE);
        dueOf(x, 1, "@ behind the address", 1);
        x = Bench.told(": $0 c v + ; $0 $1 c $2");
        dueOf(x, 1, "+ behind the address", 101);
        dueOf(x, 2, "no doing part", 1);
        x = Bench.told(": $0 c v ; $0 $1");
        dueOf(x, 1, "nothing behind the address", 1);
        x = Bench.told(": $0 c v # 1 2 ; $0 $1 : $2 3 $1 ;");
        dueOf(x, 1, "# 1 2 behind the address", 102);
        dueOf(x, 2, "a word with a doing part", 2);
        x = Bench.told(": $0 c v r ; $0 $1");
        dueOf(x, 1, "r behind the address", 203);
        x = Bench.told(": $0 c v p ; $0 $1");
        dueOf(x, 1, "p behind the address", 0);
        x = Bench.told(": $0 c v v ; $0 $1");
        dueOf(x, 1, "v behind the address", NONE);
        x = Bench.told(": $0 c v X ; $0 $1");
        dueOf(x, 1, "X behind the address", NONE);
        x = Bench.told(": $0 c v b d w 1 - g p 5 ; $0 $1");
        dueOf(x, 1, "a loop behind the address", 1);
        x = Bench.told(": $0 c v ? 1 ~ ; $0 $1");
        dueOf(x, 1, "ways that differ behind the address", NONE);
    }

    private static void wordsOfWords() {
        WordFoundry x = Bench.told(": $0 + ; : $1 $0 $0 ; : $2 1 $1 $1 ; 5 K $3 : $4 $3 $3 $0 ; : $5 d $0 ;");
        int[] effects = {201, 301, 401, 1, 1, 101};
        for (int entry = 0; entry < effects.length; entry++) {
            dueOf(x, entry, "entry " + entry, effects[entry]);
        }
        x = Bench.told(": $0 p ; I : $1 P $0 ;");
        dueOf(x, 1, "an immediate entry", 100);
    }

    private static void wordsWithout() {
        WordFoundry x = Bench.told(": $0 e ; f $1 m $2 : $3 $0 ; : $4 $1 ; : $5 $2 ; : $6 x $0 ; : $7 P ? ; : $8 P . ;",
            ": $9 P $0 ; : $10 ' $0 ;");
        int[] effects = {NONE, NONE, NONE, NONE, NONE, NONE, 0, NONE, NONE, NONE, 1};
        for (int entry = 0; entry < effects.length; entry++) {
            dueOf(x, entry, "entry " + entry, effects[entry]);
        }
    }

    private static void wrongEntries() {
        WordFoundry x = Bench.told(": $0 e ;");
        for (int entry : new int[] {-1, 1, 30, Integer.MIN_VALUE, Integer.MAX_VALUE}) {
            BENCH.fails("effect " + entry, IndexOutOfBoundsException.class, () -> x.effect(entry));
        }
        WordFoundry y = Bench.told("m $5 : $0 d ; $5 : $0 p ;");
        dueOf(y, 0, "an entry made anew", 100);
    }
}
