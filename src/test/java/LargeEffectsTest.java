import java.util.ArrayList;
import java.util.Collections;
import java.util.List;
import java.util.Random;

/**
 * Promise 25, where a word needs or gives more than an int or a long has room for: what effect answers wraps, but
 * heights are the same only if they are.
 */
public final class LargeEffectsTest {
    private static final Bench BENCH = new Bench();
    private static final int NONE = -1;
    private static final int[] POWERS = {8, 30, 31, 32, 33, 62, 63, 64, 65, 66, 80, 95, 96};
    private static final int RUNS = 400;
    /** So many calls leave room below 512 for one more word, and for asking for all effects. */
    private static final int CALLS = 430;

    public static void main(String[] args) {
        for (int power : POWERS) {
            giving(power);
            loops(power);
            taking(power);
            behindAnAddress(power);
        }
        givingAndTaking();
        for (int seed = 0; seed < RUNS; seed++) {
            asTheModel(new Random(seed));
        }
        BENCH.close("LargeEffectsTest");
    }

    private static void due(WordFoundry x, String body, int effect) {
        BENCH.same("\"" + body + "\"", Bench.enter(x, ": $15 " + body + " ;"), 'o');
        int entry = x.entries() - 1;
        if (effect == NONE) {
            BENCH.fails("the effect of \"" + body + "\"", UnsupportedOperationException.class, () -> x.effect(entry));
        } else {
            BENCH.same("the effect of \"" + body + "\"", x.effect(entry), effect);
        }
    }

    /** The name 0 does a word as often as 2 to the power tells. */
    private static WordFoundry often(String word, int power) {
        WordFoundry x = Bench.told(": $0 " + Bench.times(1 << power % 4, word) + " ;");
        for (int i = 0; i < power / 4; i++) {
            Bench.put(x, ": $0 " + Bench.times(16, "$0") + " ;");
            if (i % 2 == 1) {
                x.enter();
            }
        }
        x.enter();
        BENCH.same("entries", x.entries(), 1 + power / 4);
        return x;
    }

    /** The lowest 32 bits of 2 to the power. */
    private static int wrapped(int power) {
        return power < 32 ? 1 << power : 0;
    }

    private static void giving(int power) {
        BENCH.about("each way .. comes .. to its end with the same: 2 to the power " + power + " more are not");
        WordFoundry x = often("1", power);
        int many = wrapped(power);
        BENCH.same("numbers", x.effect(power / 4), many);
        due(x, "? $0 ~", NONE);
        due(x, "? $0 | $0 ~", 100 + many);
        due(x, "? x ~ $0", NONE);
        BENCH.same("soundness with 2 to the power " + power, x.isSound(), true);
    }

    private static void loops(int power) {
        BENCH.about("each way .. comes to each op with the same height: 2 to the power " + power + " more are not");
        WordFoundry x = often("1", power);
        due(x, "b $0 1 u", NONE);
        due(x, "D $0 L", NONE);
        due(x, "D $0 l L", 200 + wrapped(power));
    }

    private static void taking(int power) {
        BENCH.about("how many numbers it needs: 2 to the power " + power);
        WordFoundry x = often("p", power);
        int many = wrapped(power);
        BENCH.same("p", x.effect(power / 4), 100 * many);
        due(x, "? $0 ~", NONE);
        due(x, "5 $0 1", 100 * (many - 1) + 1);
        due(x, "? 5 $0 | $0 5 ~", 100 * (many + 1) + 1);
        BENCH.same("soundness with 2 to the power " + power, x.isSound(), true);
    }

    private static void behindAnAddress(int power) {
        BENCH.about("the effect of this part with its address on the stack: 2 to the power " + power);
        WordFoundry x = often("1", power);
        Bench.enter(x, ": $1 c v p $0 ; $1 $2");
        BENCH.same("numbers in place of the address", x.effect(x.entries() - 1), wrapped(power));
        due(x, "? $2 ~", NONE);
        due(x, "? $2 | $0 ~", 100 + wrapped(power));
    }

    private static void givingAndTaking() {
        BENCH.about("how many are there then in place of these: what is given and taken again is not");
        WordFoundry x = Bench.told(": $0 1 1 ; : $1 p p ;");
        for (int i = 0; i < 11; i++) {
            Bench.enter(x, ": $0 " + Bench.times(16, "$0") + " ; : $1 " + Bench.times(16, "$1") + " ;");
        }
        BENCH.same("entries", x.entries(), 24);
        due(x, "$0 $1", 0);
        due(x, "p $0 $1", 100);
        due(x, "? $0 $1 ~", 100);
        due(x, "? $0 $1 1 ~", NONE);
        due(x, "$0 2 $1", 1);
        due(x, "$0 p $1", 100);
    }

    /** Words of words are told to the class and to the plain model, which must answer alike. */
    private static void asTheModel(Random random) {
        WordFoundry x = new WordFoundry();
        PlainModel model = new PlainModel();
        List<String> told = new ArrayList<>();
        for (int calls = 0; calls < CALLS && model.entries.size() < 30; ) {
            String line = ": $" + model.entries.size() % 16 + " " + body(random, model) + " ;";
            calls += line.split(" ").length + 1;
            told.add(line);
            Bench.enter(x, line);
            put(model, line);
            model.enter();
        }
        BENCH.about("as the model: " + told);
        BENCH.same("entries", x.entries(), model.entries.size());
        for (int entry = 0; entry < x.entries(); entry++) {
            BENCH.same("the effect of the entry " + entry, effectOf(x, entry), model.effect(model.entries.get(entry)));
        }
        BENCH.same("soundness", x.isSound(), true);
    }

    private static long effectOf(WordFoundry x, int entry) {
        try {
            return x.effect(entry);
        } catch (UnsupportedOperationException e) {
            return PlainModel.NO_EFFECT;
        }
    }

    private static void put(PlainModel model, String line) {
        for (String part : line.split(" ")) {
            if (part.charAt(0) == '$') {
                model.line.add(new PlainModel.Word('a', Integer.parseInt(part.substring(1))));
            } else if (Character.isDigit(part.charAt(0))) {
                model.line.add(new PlainModel.Word('n', Integer.parseInt(part)));
            } else {
                model.line.add(new PlainModel.Word('w', part.charAt(0)));
            }
        }
    }

    private static String body(Random random, PlainModel model) {
        switch (random.nextInt(5)) {
            case 0:
                return branches(random, model);
            case 1:
                return String.join(" ", words(random, model, 10));
            default:
                return Bench.times(2 + random.nextInt(15), word(random, model));
        }
    }

    /** Two ways of the same words in another order, or of words of which one more is told on one way. */
    private static String branches(Random random, PlainModel model) {
        List<String> words = words(random, model, 5);
        String way = String.join(" ", words);
        Collections.shuffle(words, random);
        if (random.nextInt(4) == 0) {
            words.add(word(random, model));
        }
        return "? " + way + " | " + String.join(" ", words) + " ~";
    }

    private static List<String> words(Random random, PlainModel model, int most) {
        List<String> words = new ArrayList<>();
        for (int i = random.nextInt(most) + 1; i > 0; i--) {
            words.add(word(random, model));
        }
        return words;
    }

    /** A late entry that has an effect, or a word that changes the height by 1. */
    private static String word(Random random, PlainModel model) {
        int entry = model.entries.size() - 1 - random.nextInt(3);
        if (entry < 0 || random.nextInt(8) == 0 || model.effect(model.entries.get(entry)) == PlainModel.NO_EFFECT) {
            return random.nextBoolean() ? "1" : "p";
        }
        return "$" + entry % 16;
    }
}
