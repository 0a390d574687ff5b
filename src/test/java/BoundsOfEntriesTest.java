import java.util.NoSuchElementException;

/** The sentences about entries that name a boundary, on both sides of it; promises 16 to 26, and markers. */
public final class BoundsOfEntriesTest {
    private static final Bench BENCH = new Bench();
    private static final int MOST = 30;
    private static final String[] MAKES = {": $0 ;", "c $0", "7 K $0", "f $0", "m $0"};
    private static final int[] FAR = {Integer.MIN_VALUE, Integer.MIN_VALUE + 1, -100, -2, -1, 1000,
        Integer.MAX_VALUE - 1, Integer.MAX_VALUE};

    public static void main(String[] args) {
        thirtyEntries();
        roomMadeByAMarker();
        roomIsLookedAtByTheEnd();
        entryCalls();
        opCalls();
        opsOfOtherKinds();
        immediateLatest();
        twoVocabularies();
        vocabulariesAtFirst();
        vocabularyOfAWord();
        searchedFirst();
        latestOfAName();
        notFoundAsItIsMade();
        runningByNumber();
        createdWithAndWithout();
        doingPartOfTheLatest();
        doingPartNeedsCreated();
        constantsOfAnySize();
        deferredWithoutAnEntry();
        deferredByK();
        oneBeingMade();
        markerTakesAway();
        markerAndHere();
        markerAndDeferred();
        markerAndDoingParts();
        markerAsAWordIsMade();
        markerThatRuns();
        markerAmongRunning();
        isMakingOrNot();
        BENCH.close("BoundsOfEntriesTest");
    }

    private static WordFoundry withEntries(int count, String make) {
        WordFoundry x = new WordFoundry();
        for (int i = 0; i < count; i++) {
            Bench.enter(x, make);
        }
        BENCH.same("entries", x.entries(), count);
        return x;
    }

    private static void thirtyEntries() {
        BENCH.about("At most 30 entries are numbered from 0; error -8 for one more");
        for (int i = 0; i < MAKES.length; i++) {
            for (String next : MAKES) {
                WordFoundry x = withEntries(MOST - 1, MAKES[i]);
                BENCH.same("the 30th entry", Bench.enter(x, next), 'o');
                BENCH.same("entries", x.entries(), MOST);
                BENCH.same("kind", x.kindOf(MOST - 1), next.equals(MAKES[2]) ? 'K' : next.charAt(0));
                BENCH.same("the latest one", x.find(0), MOST - 1);
                BENCH.breaks(x, next, -8, "");
                BENCH.same("entries", x.entries(), MOST);
                BENCH.breaks(x, MAKES[i], -8, "");
            }
        }
        WordFoundry y = withEntries(MOST - 1, MAKES[1]);
        BENCH.breaks(y, "c $1 c $2 c $3", -8, "");
        BENCH.same("the 30th entry", y.nameOf(MOST - 1), 1);
        y = withEntries(MOST - 1, MAKES[1]);
        Bench.enter(y, ": $1 c ;");
        BENCH.breaks(y, "$1 $2", -8, "29");
        BENCH.leaves(y, "' $1 C $2", "-8");
    }

    private static void roomMadeByAMarker() {
        BENCH.about("At most 30 entries; a marker takes itself and all later entries away");
        WordFoundry x = withEntries(28, MAKES[1]);
        Bench.enter(x, "m $1 c $2");
        BENCH.same("entries", x.entries(), MOST);
        BENCH.breaks(x, "c $3", -8, "");
        Bench.enter(x, "$1");
        BENCH.same("entries", x.entries(), 28);
        BENCH.same("two more", Bench.enter(x, "c $3 : $4 5 ;"), 'o');
        BENCH.breaks(x, "c $3", -8, "");
        BENCH.leaves(x, "$4", "5");
    }

    private static void roomIsLookedAtByTheEnd() {
        BENCH.about("; ends the word: .. the word is an entry; error -8 for one more than 30");
        WordFoundry x = withEntries(MOST, MAKES[3]);
        BENCH.same("a word is begun", Bench.enter(x, ": $1 5"), 'c');
        BENCH.breaks(x, ";", -8, "");
        BENCH.breaks(x, ": $1 ? ;", -22, "");
        x = withEntries(MOST - 2, MAKES[3]);
        Bench.enter(x, ": $1 P ; ;");
        BENCH.same("with 29 entries", Bench.enter(x, ": $2 5 [ ' $1 C"), 'o');
        BENCH.same("the word has been ended", Bench.stack(x), "0");
        BENCH.same("entries", x.entries(), MOST);
        Bench.enter(x, "p : $3 5 [ ' $1 C");
        BENCH.same("with 30 entries", Bench.stack(x), "-8");
        BENCH.same("the word is being made on", x.isMaking(), true);
    }

    private static void entryCalls() {
        BENCH.about("nameOf .. effect: IndexOutOfBoundsException if there is no such entry");
        for (int count : new int[] {0, 1, 2, 29, MOST}) {
            WordFoundry x = withEntries(count, MAKES[0]);
            for (int entry = 0; entry < count; entry++) {
                BENCH.same("nameOf", x.nameOf(entry), 0);
                BENCH.same("kindOf", x.kindOf(entry), ':');
                BENCH.same("isImmediate", x.isImmediate(entry), false);
                BENCH.same("vocabularyOf", x.vocabularyOf(entry), 0);
                BENCH.same("ops", x.ops(entry), 0);
                BENCH.same("effect", x.effect(entry), 0);
            }
            noEntry(x, count);
            noEntry(x, count + 1);
            for (int entry : FAR) {
                noEntry(x, entry);
            }
        }
        WordFoundry y = Bench.told("m $0 : $1 5 ; $0");
        noEntry(y, 0);
        noEntry(y, 1);
        Bench.enter(y, ": $2 5");
        noEntry(y, 0);
    }

    private static void noEntry(WordFoundry x, int entry) {
        Class<IndexOutOfBoundsException> due = IndexOutOfBoundsException.class;
        BENCH.fails("nameOf " + entry, due, () -> x.nameOf(entry));
        BENCH.fails("kindOf " + entry, due, () -> x.kindOf(entry));
        BENCH.fails("isImmediate " + entry, due, () -> x.isImmediate(entry));
        BENCH.fails("vocabularyOf " + entry, due, () -> x.vocabularyOf(entry));
        BENCH.fails("ops " + entry, due, () -> x.ops(entry));
        BENCH.fails("opAt " + entry, due, () -> x.opAt(entry, 0));
        BENCH.fails("opNumber " + entry, due, () -> x.opNumber(entry, 0));
        BENCH.fails("effect " + entry, due, () -> x.effect(entry));
    }

    private static void opCalls() {
        BENCH.about("opAt and opNumber: IndexOutOfBoundsException if there is no such entry or op");
        for (int count : new int[] {0, 1, 2, 39, 40}) {
            WordFoundry x = Bench.told(": $0");
            Bench.enterTimes(x, count, "8");
            Bench.enter(x, "; : $1 9 9 ;");
            BENCH.same("ops", x.ops(0), count);
            for (int index = 0; index < count; index++) {
                BENCH.same("opAt", x.opAt(0, index), 'n');
                BENCH.same("opNumber", x.opNumber(0, index), 8);
            }
            noOp(x, 0, count);
            noOp(x, 0, 41);
            noOp(x, 1, 2);
            noOp(x, 2, 0);
            for (int index : FAR) {
                noOp(x, 0, index);
                noOp(x, index, 0);
                noOp(x, index, index);
            }
        }
    }

    private static void noOp(WordFoundry x, int entry, int index) {
        BENCH.fails("opAt", IndexOutOfBoundsException.class, () -> x.opAt(entry, index));
        BENCH.fails("opNumber", IndexOutOfBoundsException.class, () -> x.opNumber(entry, index));
    }

    private static void opsOfOtherKinds() {
        BENCH.about("ops: the number of ops, 0 if it is not of the kind :");
        WordFoundry x = Bench.told("m $9 : $0 1 2 3 ; $9 c $0 7 K $1 f $2 m $3 : $4 c v @ ; $4 $5 : $6 ;");
        int[] due = {0, 0, 0, 0, 3, 0, 0};
        for (int entry = 0; entry < due.length; entry++) {
            BENCH.same("ops of " + x.kindOf(entry), x.ops(entry), due[entry]);
            noOp(x, entry, due[entry]);
        }
    }

    private static void immediateLatest() {
        BENCH.about("I: the latest entry is immediate, error -13 without one");
        WordFoundry x = new WordFoundry();
        BENCH.breaks(x, "I", -13, "");
        BENCH.breaks(x, ": $0 [ I", -13, "");
        Bench.enter(x, "m $0 $0");
        BENCH.breaks(x, "I", -13, "");
        for (String make : MAKES) {
            Bench.enter(x, "c $1");
            BENCH.same("I", Bench.enter(x, make + " I"), 'o');
            int latest = x.entries() - 1;
            BENCH.same("the latest one", x.isImmediate(latest), true);
            BENCH.same("the one ahead of it", x.isImmediate(latest - 1), false);
        }
        BENCH.same("immediate still", Bench.enter(x, "I"), 'o');
        BENCH.same("the latest one", x.isImmediate(x.entries() - 1), true);
        Bench.enter(x, ": $2 5 [ I ] ; : $3 6 ;");
        BENCH.same("what is being made is not yet the latest one", x.isImmediate(x.entries() - 2), false);
        BENCH.same("a new one is not immediate", x.isImmediate(x.entries() - 1), false);
    }

    private static void twoVocabularies() {
        BENCH.about("W: n --, the vocabulary n, 0 or 1, else error -24; O: likewise");
        for (String word : new String[] {"W", "O"}) {
            for (String wrong : new String[] {"-1", "2", "3", "-2147483648", "2147483647"}) {
                WordFoundry x = Bench.told("1 " + word);
                BENCH.breaks(x, wrong + " " + word, -24, "");
                Bench.enter(x, "c $0");
                BENCH.same("what was told stays", x.vocabularyOf(0), word.equals("W") ? 1 : 0);
            }
            BENCH.leaves(new WordFoundry(), "0 " + word + " 1 " + word + " 1 " + word + " 0 " + word, "");
            BENCH.breaks(new WordFoundry(), word, -4, "");
        }
        WordFoundry x = Bench.told("1 W c $0 0 W c $1 1 W c $2");
        for (int entry = 0; entry < 3; entry++) {
            BENCH.same("vocabularyOf", x.vocabularyOf(entry), entry == 1 ? 0 : 1);
        }
    }

    private static void vocabulariesAtFirst() {
        BENCH.about("Both are 0 at first");
        WordFoundry x = Bench.told("c $0 1 W c $1");
        BENCH.same("for new entries", x.vocabularyOf(0), 0);
        BENCH.same("found", x.find(0), 0);
        BENCH.fails("searched first", NoSuchElementException.class, () -> x.find(1));
        BENCH.breaks(x, "$1", -13, "");
    }

    private static void vocabularyOfAWord() {
        BENCH.about("; : an entry in the vocabulary that was told as it was begun");
        WordFoundry x = Bench.told(": $0 [ 1 W ] ; : $1 [ 0 W ] ; c $2 1 W f $3 m $4 5 K $5");
        int[] due = {0, 1, 0, 1, 1, 1};
        for (int entry = 0; entry < due.length; entry++) {
            BENCH.same("vocabularyOf " + entry, x.vocabularyOf(entry), due[entry]);
        }
        x = Bench.told("1 W : $0", "[ 0 W 5 K $1 ] ;");
        BENCH.same("made within it", x.vocabularyOf(0), 0);
        BENCH.same("name", x.nameOf(0), 1);
        BENCH.same("as it was begun", x.vocabularyOf(1), 1);
    }

    private static void searchedFirst() {
        BENCH.about("A name is found .. first in the vocabulary that is searched first, then in the vocabulary 0; "
            + "error -13 without one");
        WordFoundry x = Bench.told("c $0 1 W c $0 c $1 0 W c $0 c $2");
        BENCH.same("in 0", x.find(0), 3);
        BENCH.fails("in 1 alone", NoSuchElementException.class, () -> x.find(1));
        BENCH.same("in 0 alone", x.find(2), 4);
        BENCH.breaks(x, "$1", -13, "");
        BENCH.breaks(x, "' $1", -13, "");
        BENCH.breaks(x, ": $5 $1", -13, "");
        BENCH.breaks(x, ": $5 P $1", -13, "");
        BENCH.leaves(x, "1 O ' $0 ' $1 ' $2", "1 2 4");
        BENCH.same("in 1, though an earlier one", x.find(0), 1);
        BENCH.same("in 1 alone", x.find(1), 2);
        BENCH.same("in 0 alone", x.find(2), 4);
        BENCH.fails("in none", NoSuchElementException.class, () -> x.find(3));
        BENCH.leaves(x, "p p p 0 O ' $0", "3");
    }

    private static void latestOfAName() {
        BENCH.about("A name is found as the latest entry of that name");
        WordFoundry x = new WordFoundry();
        for (int i = 0; i < MOST; i++) {
            BENCH.fails("find 15", NoSuchElementException.class, () -> x.find(15));
            Bench.enter(x, "c $" + i % 3);
            BENCH.same("the latest one", x.find(i % 3), i);
            BENCH.same("the latest of the one ahead", i == 0 || x.find((i + 2) % 3) == i - 1, true);
        }
    }

    private static void notFoundAsItIsMade() {
        BENCH.about("What is being made is not found");
        WordFoundry x = Bench.told(": $0");
        BENCH.fails("find", NoSuchElementException.class, () -> x.find(0));
        BENCH.breaks(x, "$0", -13, "");
        BENCH.same("an earlier one is", Bench.enter(x, ": $0 5 ; : $0 $0 ;"), 'o');
        BENCH.same("ops", Bench.ops(x, 1), "c0");
        BENCH.same("found behind its end", x.find(0), 1);
    }

    private static void runningByNumber() {
        BENCH.about("e: x --, runs the entry x; error -13 if there is none");
        for (int count : new int[] {0, 1, 29, MOST}) {
            WordFoundry x = withEntries(count, MAKES[2]);
            for (int entry : new int[] {-1, count, count + 1, Integer.MIN_VALUE, Integer.MAX_VALUE}) {
                BENCH.breaks(x, entry + " e", -13, "");
                BENCH.leaves(x, entry + " C p", "");
            }
            if (count > 0) {
                BENCH.leaves(x, "0 e " + (count - 1) + " e", "7 7");
            }
        }
        WordFoundry y = Bench.told("7 K $0 : $1");
        BENCH.breaks(y, "[ 1 e", -13, "");
    }

    private static void createdWithAndWithout() {
        BENCH.about("'c' one that was created, which puts its address on the stack, and then runs its doing part, "
            + "if it has one");
        WordFoundry x = Bench.told("c $0 3 a c $1 97 a c $2");
        BENCH.leaves(x, "$0 $1 $2", "0 3 100");
        Bench.enter(x, ": $3 v d . ; c $4 $3");
        BENCH.leaves(x, "$4 $0", "0 3 100 100 0");
        BENCH.same("the doing part", Bench.outs(x), "100");
        BENCH.leaves(x, "p p p p p -50 a $4", "100");
    }

    private static void doingPartOfTheLatest() {
        BENCH.about("all behind it becomes the doing part of the latest entry");
        WordFoundry x = Bench.told(": $0 v 8 . ; c $1 c $2 $0");
        Bench.enter(x, "$1 p");
        BENCH.same("the one ahead has none", x.outs(), 0);
        Bench.enter(x, "$2 p");
        BENCH.same("the latest one has it", Bench.outs(x), "8");
        Bench.enter(x, ": $3 v ; c $4 $0 $4 $3 $4");
        BENCH.same("it is there till the next one", Bench.outs(x), "8 8");
        x = Bench.told(": $0 1 . v ; c $1 $0 $1 . $1 .");
        BENCH.same("nothing behind it", Bench.outs(x), "1 0 0");
    }

    private static void doingPartNeedsCreated() {
        BENCH.about("the latest entry, which must be of the kind 'c', else error -31");
        for (String make : MAKES) {
            WordFoundry x = Bench.told("c $3 : $5 v 9 ;", make);
            boolean created = make.equals(MAKES[1]);
            BENCH.same("behind " + make, Bench.enter(x, "$5"), created ? 'o' : 'e');
            BENCH.same("the error", Bench.errorOf(x), created ? 0 : -31);
            BENCH.same("the trace", Bench.trail(x), created ? "" : "1");
        }
        BENCH.breaks(Bench.told("c $3 : $5 v 9 ;"), "$5", -31, "1");
        BENCH.leaves(Bench.told("c $3 : $5 v 9 ;"), "' $5 C $3", "-31 0");
    }

    private static void constantsOfAnySize() {
        BENCH.about("K: n --, a constant, which puts its value there");
        for (int n : new int[] {Integer.MIN_VALUE, -1, 0, 1, 41, Integer.MAX_VALUE}) {
            BENCH.leaves(new WordFoundry(), n + " K $0 $0 $0 - $0", "0 " + n);
        }
    }

    private static void deferredWithoutAnEntry() {
        BENCH.about("'f' a deferred one, which runs the entry that it has, error -13 without one");
        WordFoundry x = Bench.told("f $0 : $1 $0 ; 7 K $2");
        BENCH.breaks(x, "$0", -13, "");
        BENCH.breaks(x, "$1", -13, "1");
        BENCH.breaks(x, "0 e", -13, "");
        BENCH.leaves(x, "' $0 C", "-13");
        BENCH.leaves(x, "p ' $2 k $0 $0 $1", "7 7");
        Bench.enter(x, "f $0");
        BENCH.breaks(x, "$0", -13, "");
        BENCH.leaves(x, "$1", "7");
    }

    private static void deferredByK() {
        BENCH.about("k: error -32 if the name is no deferred word, -13 if there is no entry x");
        WordFoundry x = Bench.told(": $0 1 ; c $1 2 K $2 f $3 m $4");
        for (int name = 0; name < 5; name++) {
            if (name != 3) {
                BENCH.breaks(x, "0 k $" + name, -32, "");
                BENCH.breaks(x, "99 k $" + name, -32, "");
            }
        }
        for (String wrong : new String[] {"-1", "5", "30", "-2147483648", "2147483647"}) {
            BENCH.breaks(x, wrong + " k $3", -13, "");
            BENCH.breaks(x, "$3", -13, "");
        }
        BENCH.breaks(x, "0 k $5", -13, "");
        BENCH.leaves(x, "0 k $3 $3", "1");
        BENCH.leaves(x, "4 k $3", "1");
        BENCH.breaks(x, "5 k $3", -13, "");
        Bench.enter(x, "$3");
        BENCH.same("the marker with the number 4 ran", x.entries(), 4);
    }

    private static void oneBeingMade() {
        BENCH.about(": makes a word, error -29 if one is being made; the system compiles");
        WordFoundry x = new WordFoundry();
        BENCH.same("none is being made", Bench.enter(x, ": $0"), 'c');
        BENCH.breaks(x, "[ : $1", -29, "");
        BENCH.same("it is gone then", Bench.enter(x, ": $0 5 ; : $1"), 'c');
        BENCH.same("an entry", x.entries(), 1);
        Bench.enter(x, ";");
        Bench.enter(x, ": $2 : ; : $3 7 [ ' $2 C $4");
        BENCH.same("one is being made", Bench.stack(x), "-29");
        BENCH.same("and made on", Bench.enter(x, ";"), 'o');
        BENCH.same("name", x.nameOf(3), 3);
        BENCH.same("ops", Bench.ops(x, 3), "n7");
        BENCH.same("none is being made", Bench.enter(x, "p $2 $4"), 'c');
    }

    private static void markerTakesAway() {
        BENCH.about("A marker, when it runs, takes itself and all later entries away");
        for (int count : new int[] {0, 1, 15, 29}) {
            for (int later : new int[] {0, 1, 29 - count}) {
                WordFoundry x = withEntries(count, MAKES[1]);
                Bench.enter(x, "m $7");
                for (int i = 0; i < later && x.entries() < MOST; i++) {
                    Bench.enter(x, "c $8");
                }
                BENCH.same("the marker", Bench.enter(x, "$7"), 'o');
                BENCH.same("entries", x.entries(), count);
                BENCH.fails("itself", NoSuchElementException.class, () -> x.find(7));
                BENCH.fails("later ones", NoSuchElementException.class, () -> x.find(8));
                BENCH.breaks(x, count + " e", -13, "");
            }
        }
    }

    private static void markerAndHere() {
        BENCH.about("here becomes what it was when it was made");
        for (int was : new int[] {0, 1, 50, 100}) {
            for (int then : new int[] {0, 1, 50, 100}) {
                WordFoundry x = Bench.told(was + " a m $0 " + (then - was) + " a");
                BENCH.same("here ahead of it", x.here(), then);
                Bench.enter(x, "$0");
                BENCH.same("here behind it", x.here(), was);
            }
        }
    }

    private static void markerAndDeferred() {
        BENCH.about("deferred words that have an entry that is gone have none");
        WordFoundry x = Bench.told("f $0 f $1 f $2 7 K $3 m $4 8 K $5", "3 k $0 4 k $1 5 k $2");
        BENCH.leaves(x, "$0 $2", "7 8");
        BENCH.leaves(x, "$4 $0", "7 8 7");
        BENCH.breaks(x, "$1", -13, "");
        BENCH.breaks(x, "$2", -13, "");
        Bench.enter(x, "1 K $6 2 K $7");
        BENCH.breaks(x, "$1", -13, "");
        BENCH.breaks(x, "$2", -13, "");
        BENCH.leaves(x, "$0", "7");
    }

    private static void markerAndDoingParts() {
        BENCH.about("a doing part that is gone leaves what was created without it");
        WordFoundry x = Bench.told(": $0 c v 8 . ; $0 $1 m $2 $0 $3 $2 $1 .");
        BENCH.same("one that is not gone stays", Bench.outs(x), "8 0");
        Bench.enter(x, "m $2 : $4 c v 9 . ; $4 $5 $5 . $2 c $6 c $7 c $8 $6 . $8 .");
        BENCH.same("later ones have none", Bench.outs(x), "8 0 9 0 0 0");
        BENCH.same("entries", x.entries(), 5);
    }

    private static void markerAsAWordIsMade() {
        BENCH.about("if a word is being made .. error -31");
        WordFoundry x = Bench.told("c $0 m $1 c $2 : $3 ;", ": $4 5");
        BENCH.leaves(x, "[ 1 C", "-31");
        BENCH.same("nothing went", x.entries(), 4);
        BENCH.same("the word is made on", Bench.enter(x, "] 6 ;"), 'o');
        BENCH.same("ops", Bench.ops(x, 4), "n5 n6");
        Bench.enter(x, ": $5 5");
        BENCH.breaks(x, "[ $1", -31, "");
        BENCH.same("none is being made", Bench.enter(x, "$1"), 'o');
        BENCH.same("entries", x.entries(), 1);
        BENCH.same("compiled, not run", Bench.enter(x, "m $1 : $2 $1 ;"), 'o');
        BENCH.same("ops", Bench.ops(x, 2), "c1");
        BENCH.breaks(Bench.told("m $1 I"), ": $2 $1", -31, "");
        BENCH.same("while the system compiles alone", Bench.enter(Bench.told("m $1 I"), "] $1"), 'c');
    }

    private static void markerThatRuns() {
        BENCH.about("if .. one that runs .. would go by this, error -31");
        WordFoundry x = Bench.told("f $0 : $1 $0 8 . ; m $2 : $3 $2 ; : $4 $1 ;", "2 k $0");
        BENCH.breaks(x, "$3", -31, "3");
        BENCH.breaks(x, "$4", -31, "0 1 4");
        BENCH.same("nothing went", x.entries(), 5);
        BENCH.same("the one ahead of it runs on", Bench.enter(x, "$1"), 'o');
        BENCH.same("outs", Bench.outs(x), "8");
        BENCH.same("entries", x.entries(), 2);
        x = Bench.told("m $0 f $1 0 k $1");
        BENCH.breaks(x, "$1", -31, "1");
        x = Bench.told("f $1 m $0 1 k $1");
        BENCH.same("a deferred one ahead of it", Bench.enter(x, "$1"), 'o');
        BENCH.same("entries", x.entries(), 1);
        x = Bench.told("f $0 : $1 c v $0 8 . ; $1 $2 m $3 3 k $0 $1 $4");
        BENCH.breaks(x, "$4", -31, "0 4");
        BENCH.leaves(x, "$2", "0");
        BENCH.same("created ahead of it, and runs on", Bench.outs(x), "8");
        BENCH.same("entries", x.entries(), 3);
    }

    private static void markerAmongRunning() {
        BENCH.about("if .. one that runs .. would go by this, error -31: any of those that run");
        WordFoundry x = Bench.told("f $0 : $1 $0 ; m $2 2 k $0 : $3 $1 ; : $4 $3 ; : $5 ' $4 C ;");
        BENCH.breaks(x, "$3", -31, "0 1 3");
        BENCH.breaks(x, "$4", -31, "0 1 3 4");
        BENCH.leaves(x, "$5", "-31");
        BENCH.same("entries", x.entries(), 6);
        BENCH.leaves(x, "$1", "-31");
        BENCH.same("entries", x.entries(), 2);
    }

    private static void isMakingOrNot() {
        BENCH.about("isMaking: whether a word is being made");
        WordFoundry x = new WordFoundry();
        BENCH.same("at first", x.isMaking(), false);
        Bench.enter(x, "]");
        BENCH.same("behind ]", x.isMaking(), false);
        Bench.enter(x, "[ : $0");
        BENCH.same("behind :", x.isMaking(), true);
        Bench.enter(x, "[");
        BENCH.same("behind [", x.isMaking(), true);
        Bench.put(x, ";");
        BENCH.same("as a line is told", x.isMaking(), true);
        x.enter();
        BENCH.same("behind ;", x.isMaking(), false);
        Bench.enter(x, ": $0 5 t ; : $1 [");
        BENCH.same("behind [", x.isMaking(), true);
        Bench.enter(x, "$0");
        BENCH.same("behind an error", x.isMaking(), false);
    }
}
