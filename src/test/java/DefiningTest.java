import java.util.NoSuchElementException;

/** Promises 16 to 21: entries of every kind, their vocabularies, finding them, and markers that forget. */
public final class DefiningTest {
    private static final Bench BENCH = new Bench();

    public static void main(String[] args) {
        kinds();
        askingForEntries();
        created();
        doingParts();
        doingPartsRefused();
        constants();
        deferred();
        redirecting();
        immediates();
        vocabularies();
        vocabularyAsBegun();
        finding();
        missingNames();
        fullDictionary();
        markers();
        markersRefused();
        markersAndDeferred();
        BENCH.close("DefiningTest");
    }

    private static void kinds() {
        WordFoundry x = Bench.told(": $5 ; c $6 3 K $7 f $8 m $9 : $5 ; I");
        BENCH.same("entries", x.entries(), 6);
        String kinds = ":cKfm:";
        int[] names = {5, 6, 7, 8, 9, 5};
        for (int entry = 0; entry < 6; entry++) {
            BENCH.same("kind", x.kindOf(entry), kinds.charAt(entry));
            BENCH.same("name", x.nameOf(entry), names[entry]);
            BENCH.same("immediate", x.isImmediate(entry), entry == 5);
            BENCH.same("vocabulary", x.vocabularyOf(entry), 0);
            BENCH.same("ops", x.ops(entry), 0);
        }
    }

    private static void askingForEntries() {
        WordFoundry x = Bench.told("c $1 c $2");
        for (int entry : new int[] {-1, 2, 29, 30, Integer.MIN_VALUE, Integer.MAX_VALUE}) {
            BENCH.fails("nameOf", IndexOutOfBoundsException.class, () -> x.nameOf(entry));
            BENCH.fails("kindOf", IndexOutOfBoundsException.class, () -> x.kindOf(entry));
            BENCH.fails("isImmediate", IndexOutOfBoundsException.class, () -> x.isImmediate(entry));
            BENCH.fails("vocabularyOf", IndexOutOfBoundsException.class, () -> x.vocabularyOf(entry));
        }
        BENCH.fails("nameOf without entries", IndexOutOfBoundsException.class, () -> new WordFoundry().nameOf(0));
    }

    private static void created() {
        WordFoundry x = Bench.told("c $0 5 , 6 , c $1 7 ,");
        BENCH.leaves(x, "$0 $1", "0 2");
        BENCH.leaves(x, "$1 @", "0 2 7");
        WordFoundry y = Bench.told(": $0 c , ; 9 $0 $1 8 $0 $2");
        BENCH.leaves(y, "$1 @ $2 @", "9 8");
        BENCH.same("kind", y.kindOf(2), 'c');
        BENCH.same("name", y.nameOf(2), 2);
    }

    private static void doingParts() {
        WordFoundry x = Bench.told(": $0 c , v @ . ;");
        BENCH.same("v", Bench.ops(x, 0), "wc w, v w@ w.");
        BENCH.leaves(x, "9 $0 $1 8 $0 $2", "");
        BENCH.leaves(x, "$1 $2 $1", "");
        BENCH.same("outs", Bench.outs(x), "9 8 9");
        x = Bench.told(": $0 c v d 3 < ? 1 + X x ~ 77 ;", ": $1 v 5 ;", "c $2 $1 $2");
        BENCH.same("v by another word", Bench.stack(x), "0 5");
        BENCH.leaves(x, "$2", "0 5 0 5");
        x = Bench.told(": $0 c v 1 v 2 v 3 ;", "$0 $1 $1");
        BENCH.same("the doing part ends at its own v", Bench.stack(x), "0 1");
        BENCH.leaves(x, "p p $1", "0 2");
        BENCH.leaves(x, "p p $1", "0 3");
        BENCH.leaves(x, "p p $1", "0 3");
        x = Bench.told(": $0 d . c v X 7 . ;");
        BENCH.leaves(x, "4 $0 $1", "4");
        BENCH.leaves(x, "p 5 $1 $2", "5 0");
        BENCH.same("X in a doing part runs the word itself", Bench.outs(x), "4 0 7");
        BENCH.same("entries", x.entries(), 3);
        BENCH.same("the name of the latest", x.nameOf(2), 2);
        x = Bench.told(": $0 c v p ;", "$0 $1", "1 2 3 4 5 6 7 8 9 10 11 12 13 14 15 16 17 18 19 20",
            "1 2 3 4 5 6 7 8 9 10 11 12 13 14 15 16 17 18 19 20");
        BENCH.same("a full stack", x.depth(), 40);
        BENCH.breaks(x, "$1", -3, "");
        x = Bench.told(": $0 c v 5 . x 6 . ;", "$0 $1 $1 $1");
        BENCH.same("x in a doing part", Bench.outs(x), "5 5");
    }

    private static void doingPartsRefused() {
        WordFoundry x = Bench.told(": $0 v ;");
        BENCH.breaks(x, "$0", -31, "0");
        for (String latest : new String[] {"1 K $1", "f $1", "m $1", ": $1 ;"}) {
            x = Bench.told("c $2 : $0 v ;", latest);
            BENCH.breaks(x, "$0", -31, "1");
        }
        x = Bench.told(": $0 c v 5 ;", "$0 $1 3 K $2");
        BENCH.leaves(x, "$1", "0 5");
        BENCH.same("a doing part needs no number", Bench.enter(x, "p p : $3 v"), 'c');
    }

    private static void constants() {
        WordFoundry x = Bench.told("5 K $0 -2147483648 K $1");
        BENCH.leaves(x, "$0 $1 $0", "5 -2147483648 5");
        BENCH.breaks(x, "p p p K $2", -4, "");
        BENCH.breaks(x, "K", -4, "");
        BENCH.breaks(x, "1 K", -16, "");
        BENCH.breaks(x, "1 K 2", -16, "");
        BENCH.breaks(x, "1 K d", -16, "");
        BENCH.same("entries", x.entries(), 2);
    }

    private static void deferred() {
        WordFoundry x = Bench.told("f $0 : $1 5 ; : $2 $0 6 ;");
        BENCH.breaks(x, "$0", -13, "");
        BENCH.breaks(x, "$2", -13, "2");
        BENCH.leaves(x, "' $1 k $0 $0 $2", "5 5 6");
        BENCH.leaves(x, "' $2 k $0", "5 5 6");
        StringBuilder both = new StringBuilder();
        for (int i = 0; i < 15; i++) {
            both.append(i == 0 ? "" : " ").append("2 0");
        }
        BENCH.breaks(x, "$2", -5, mirrored(both.toString()));
        BENCH.leaves(x, "f $3 ' $3 k $3", "");
        BENCH.breaks(x, "$3", -5, "3 ".repeat(30).trim());
        BENCH.leaves(x, "7 K $4 ' $4 k $3 $3", "7");
        BENCH.leaves(x, "c $5 ' $5 k $3 $3", "7 0");
    }

    private static String mirrored(String text) {
        String[] parts = text.split(" ");
        StringBuilder back = new StringBuilder();
        for (int i = parts.length - 1; i >= 0; i--) {
            back.append(back.length() == 0 ? "" : " ").append(parts[i]);
        }
        return back.toString();
    }

    private static void redirecting() {
        WordFoundry x = Bench.told("f $0 : $1 5 ;");
        BENCH.breaks(x, "k $0", -4, "");
        BENCH.breaks(x, "1 k", -16, "");
        BENCH.breaks(x, "1 k 5", -16, "");
        BENCH.breaks(x, "1 k $9", -13, "");
        BENCH.breaks(x, "1 k $1", -32, "");
        BENCH.breaks(x, "9 k $1", -32, "");
        BENCH.breaks(x, "9 k $9", -13, "");
        BENCH.breaks(x, "2 k $0", -13, "");
        BENCH.breaks(x, "-1 k $0", -13, "");
        BENCH.breaks(x, "$0", -13, "");
        BENCH.leaves(x, "1 k $0 $0", "5");
        Bench.enter(x, ": $2 1 k ;");
        BENCH.leaves(x, "f $3 $2 $3 $3", "5 5");
    }

    private static void immediates() {
        WordFoundry x = new WordFoundry();
        BENCH.breaks(x, "I", -13, "");
        BENCH.leaves(x, ": $0 1 . ; I 3 K $1 I", "");
        BENCH.same("immediate", x.isImmediate(0) && x.isImmediate(1), true);
        Bench.enter(x, ": $2 $0 $1 ; I I");
        BENCH.same("done while compiling", Bench.outs(x) + "/" + Bench.stack(x) + "/" + x.ops(2), "1/3/0");
        BENCH.same("immediate twice", x.isImmediate(2), true);
        Bench.enter(x, ": $3 I ; c $4 $3");
        BENCH.same("I in a word", x.isImmediate(4), true);
        BENCH.same("I in a word", x.isImmediate(3), false);
    }

    private static void vocabularies() {
        WordFoundry x = Bench.told(": $0 1 ; 1 W : $0 2 ; c $1 3 K $2 f $3 m $4 0 W : $5 ;");
        for (int entry = 0; entry < 7; entry++) {
            BENCH.same("vocabulary", x.vocabularyOf(entry), entry >= 1 && entry <= 5 ? 1 : 0);
        }
        BENCH.leaves(x, "$0 1 O $0 0 O $0", "1 2 1");
        BENCH.breaks(x, "$2", -13, "");
        BENCH.leaves(x, "1 O $2", "3");
        BENCH.leaves(x, "$5", "3");
        BENCH.breaks(x, "0 O $1", -13, "");
        for (String wrong : new String[] {"2", "-1", "2147483647"}) {
            BENCH.breaks(x, wrong + " W", -24, "");
            BENCH.breaks(x, wrong + " O", -24, "");
        }
        BENCH.leaves(x, "1 W 1 O", "");
        BENCH.breaks(x, "p", -4, "");
        BENCH.leaves(x, "$2 5 K $6", "3");
        BENCH.same("both stay after an error", x.vocabularyOf(7), 1);
    }

    private static void vocabularyAsBegun() {
        WordFoundry x = Bench.told("1 W : $0 [ 0 W ] ; : $1 ;");
        BENCH.same("vocabulary as begun", x.vocabularyOf(0), 1);
        BENCH.same("vocabulary as told then", x.vocabularyOf(1), 0);
    }

    private static void finding() {
        WordFoundry x = Bench.told(": $3 1 ; : $3 2 ; 1 W : $3 3 ; : $4 4 ;");
        BENCH.same("the latest one", x.find(3), 1);
        BENCH.fails("in no vocabulary", NoSuchElementException.class, () -> x.find(4));
        BENCH.fails("no entry", NoSuchElementException.class, () -> x.find(5));
        Bench.enter(x, "1 O");
        BENCH.same("searched first", x.find(3), 2);
        BENCH.same("searched first", x.find(4), 3);
        Bench.enter(x, "0 W : $3 5 ; : $6 6 ;");
        BENCH.same("searched first, though an earlier one", x.find(3), 2);
        BENCH.same("the vocabulary 0 is behind", x.find(6), 5);
        for (int name : new int[] {-1, 16, Integer.MIN_VALUE, Integer.MAX_VALUE}) {
            BENCH.fails("find " + name, IllegalArgumentException.class, () -> x.find(name));
        }
        Bench.enter(x, "0 O");
        BENCH.same("the latest one", x.find(3), 4);
        Bench.enter(x, ": $3");
        BENCH.same("what is being made is not found", x.find(3), 4);
    }

    private static void missingNames() {
        for (String word : new String[] {"c", "f", "m", ":"}) {
            BENCH.breaks(new WordFoundry(), word, -16, "");
            BENCH.breaks(new WordFoundry(), word + " 1", -16, "");
            BENCH.breaks(new WordFoundry(), word + " d", -16, "");
            BENCH.breaks(Bench.told(": $0 " + word + " ;"), "$0", -16, "0");
        }
        WordFoundry x = Bench.told(": $0 c ; ' $0 C 7 $0 $5");
        BENCH.same("what is no name is not taken", Bench.stack(x), "-16 7");
        BENCH.same("created", x.nameOf(1), 5);
    }

    private static void fullDictionary() {
        String[] makes = {"c $0", "1 K $0", "f $0", "m $0", ": $0 ;"};
        for (String make : makes) {
            WordFoundry x = new WordFoundry();
            for (int i = 0; i < 30; i++) {
                Bench.enter(x, make);
            }
            BENCH.same("thirty entries", x.entries(), 30);
            BENCH.same("the latest one", x.find(0), 29);
            for (String more : makes) {
                BENCH.breaks(x, more, -8, "");
            }
            BENCH.breaks(x, "c 5", -16, "");
            BENCH.breaks(x, "c", -16, "");
            BENCH.same("a word is begun", Bench.enter(x, ": $0 1"), 'c');
            BENCH.breaks(x, "? ;", -22, "");
            BENCH.same("thirty entries", x.entries(), 30);
            BENCH.fails("nameOf 30", IndexOutOfBoundsException.class, () -> x.nameOf(30));
            BENCH.same("sound", x.isSound(), true);
        }
    }

    private static void markers() {
        WordFoundry x = Bench.told("c $0 1 , 2 , m $1 : $2 7 ; c $0 3 ,");
        BENCH.same("here", x.here(), 3);
        BENCH.same("find", x.find(0), 3);
        BENCH.leaves(x, "5 $1 6", "5 6");
        BENCH.same("entries", x.entries(), 1);
        BENCH.same("here", x.here(), 2);
        BENCH.same("cells stay", x.cell(2), 3);
        BENCH.same("find", x.find(0), 0);
        BENCH.breaks(x, "$1", -13, "");
        Bench.enter(x, "m $1 m $2 c $3");
        BENCH.leaves(x, "$2 $1", "");
        BENCH.same("entries", x.entries(), 1);
        Bench.enter(x, "m $1 -2 a");
        BENCH.leaves(x, "$1 h", "2");
        Bench.enter(x, "p m $1 1 W 1 O $1 c $4");
        BENCH.same("the vocabularies stay", x.vocabularyOf(1), 1);
        BENCH.same("an entry made anew is not immediate", Bench.enter(x, "m $1 : $2 ; I $1 m $1 : $2 ;"), 'o');
        BENCH.same("immediate", x.isImmediate(3), false);
        BENCH.same("a marker by e", Bench.enter(x, "' $1 e"), 'o');
        BENCH.same("entries", x.entries(), 2);
    }

    private static void markersRefused() {
        WordFoundry x = Bench.told("m $1 : $2 $1 ;");
        BENCH.breaks(x, "$2", -31, "1");
        BENCH.same("entries", x.entries(), 2);
        BENCH.breaks(x, ": $3 [ $1", -31, "");
        BENCH.same("entries", x.entries(), 2);
        x = Bench.told("f $0 : $1 $0 ; m $2 c $3 ' $2 k $0");
        BENCH.leaves(x, "$1", "");
        BENCH.same("by words that stay", x.entries(), 2);
        x = Bench.told("f $0 m $1 ' $1 k $0 : $2 $0 ;");
        BENCH.breaks(x, "$2", -31, "0 2");
        x = Bench.told("f $0 : $1 c v $0 ; m $2 ' $2 k $0 $1 $3");
        BENCH.breaks(x, "$3", -31, "0 3");
        x = Bench.told("f $0 : $1 c v $0 ; $1 $3 m $2 ' $2 k $0");
        BENCH.leaves(x, "$3", "0");
        BENCH.same("what is created stays, and runs on", x.entries(), 3);
        x = Bench.told("m $0 f $1 ' $0 k $1");
        BENCH.breaks(x, "$1", -31, "1");
        BENCH.leaves(x, "' $1 C", "-31");
        BENCH.leaves(x, "p $0", "");
    }

    private static void markersAndDeferred() {
        WordFoundry x = Bench.told("f $0 f $1 5 K $2 ' $2 k $1 m $3 6 K $4 ' $4 k $0");
        BENCH.leaves(x, "$0 $1", "6 5");
        BENCH.leaves(x, "$3 $1", "6 5 5");
        BENCH.breaks(x, "$0", -13, "");
        BENCH.leaves(x, "c $5 c $6", "");
        BENCH.breaks(x, "$0", -13, "");
        x = Bench.told("f $0 m $1 ' $1 k $0 $0");
        BENCH.same("the marker itself is gone", x.entries(), 1);
        BENCH.breaks(x, "$0", -13, "");
        BENCH.leaves(x, "7 K $3", "");
        BENCH.breaks(x, "$0", -13, "");
    }
}
