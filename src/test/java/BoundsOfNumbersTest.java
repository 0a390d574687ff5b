/** The sentences about stacks, cells and core words that name a boundary, on both sides of it; promises 9 to 15. */
public final class BoundsOfNumbersTest {
    private static final Bench BENCH = new Bench();
    private static final int MOST = 40;
    private static final int[] FAR = {Integer.MIN_VALUE, Integer.MIN_VALUE + 1, -100, -1, Integer.MAX_VALUE - 1,
        Integer.MAX_VALUE};

    public static void main(String[] args) {
        fortyOnTheFirst();
        fortyOnTheFirstByOps();
        fortyOnTheSecond();
        fullOnTheWayBack();
        fullWhenCaught();
        neededNumbers();
        neededByOps();
        stackFirstThenName();
        numbersWrap();
        comparing();
        quotients();
        divisorZero();
        secondStackOutOfAllWords();
        secondStackOfAWord();
        cellsOfStore();
        hereByA();
        hereByComma();
        cellCalls();
        atCalls();
        depthAndSecond();
        outCalls();
        manyOuts();
        BENCH.close("BoundsOfNumbersTest");
    }

    /** A system with entries of each plain kind, and so many numbers on the first stack. */
    private static WordFoundry full(int count) {
        WordFoundry x = Bench.told("5 K $0 c $1 : $2 ; f $3 0 k $3", ": $4 { 1 i p p } ; : $5 7 x ;");
        Bench.enterTimes(x, count, "1");
        BENCH.same("depth", x.depth(), count);
        return x;
    }

    private static void fortyOnTheFirst() {
        BENCH.about("Both stacks have at most 40 ints; error -3 if there would be more than 40");
        for (String word : new String[] {"1", "d", "o", "h", "' $0", "$0", "$1", "$3", "$5"}) {
            WordFoundry x = full(MOST - 1);
            BENCH.same(word + " with 39 numbers", Bench.enter(x, word), 'o');
            BENCH.same("depth", x.depth(), MOST);
            BENCH.same("at", x.at(MOST - 1), 1);
        }
        for (String word : new String[] {"1", "d", "o", "h", "' $0", "$0", "$1"}) {
            BENCH.breaks(full(MOST), word, -3, "");
        }
        BENCH.breaks(full(MOST), "$3", -3, "3");
        BENCH.breaks(full(MOST), "$5", -3, "5");
        for (String word : new String[] {"s", "r", "+", "p", "0 p", "1 =", "p @", "."}) {
            boolean more = word.length() > 1 && word.charAt(0) != 'p';
            BENCH.same(word, Bench.enter(full(more ? MOST - 1 : MOST), word), 'o');
        }
    }

    private static void fortyOnTheFirstByOps() {
        BENCH.about("error -3 if there would be more than 40, by i, _ and } too");
        WordFoundry x = full(MOST - 1);
        BENCH.same("i with 39 numbers", Bench.enter(x, "$4"), 'o');
        BENCH.same("depth", x.depth(), MOST - 1);
        BENCH.breaks(full(MOST), "$4", -3, "4");
        for (String word : new String[] {"_", "}"}) {
            x = new WordFoundry();
            Bench.enter(x, "9 {");
            Bench.enterTimes(x, MOST - 1, "1");
            BENCH.same(word + " with 39 numbers", Bench.enter(x, word), 'o');
            BENCH.same("at 0", x.at(0), 9);
            BENCH.same("depth", x.depth(), MOST);
            x = new WordFoundry();
            Bench.enter(x, "9 {");
            Bench.enterTimes(x, MOST, "1");
            BENCH.breaks(x, word, -3, "");
            x = full(MOST);
            BENCH.breaks(x, word, -6, "");
        }
    }

    private static void fortyOnTheSecond() {
        BENCH.about("Both stacks have at most 40 ints, the second one too");
        for (int count : new int[] {0, 1, 37, 38, 39, 40}) {
            WordFoundry x = Bench.told(": $0 D l L ; : $1 { } ;");
            Bench.enterTimes(x, count, "1 {");
            BENCH.same("second", x.second(), count);
            boolean fits = count + 2 <= MOST;
            BENCH.same("D with " + count, Bench.enter(x, "5 6 $0"), fits ? 'o' : 'e');
            BENCH.same("the error", Bench.errorOf(x), fits ? 0 : -3);
            BENCH.same("second", x.second(), fits ? count : 0);
            x = Bench.told(": $0 D l L ; : $1 { } ;");
            Bench.enterTimes(x, count, "1 {");
            fits = count + 1 <= MOST;
            BENCH.same("{ with " + count, Bench.enter(x, "5 $1 {"), fits ? 'o' : 'e');
            BENCH.same("the error", Bench.errorOf(x), fits ? 0 : -3);
            BENCH.same("second", x.second(), fits ? count + 1 : 0);
        }
    }

    private static void fullOnTheWayBack() {
        BENCH.about("} moves the uppermost of that back, _ copies it: all 40 of them");
        WordFoundry x = new WordFoundry();
        for (int i = 0; i < MOST; i++) {
            Bench.enter(x, i + " {");
        }
        BENCH.same("_", Bench.enter(x, "_ ."), 'o');
        Bench.enterTimes(x, MOST, "}");
        BENCH.same("depth", x.depth(), MOST);
        BENCH.same("second", x.second(), 0);
        for (int i = 0; i < MOST; i++) {
            BENCH.same("at " + i, x.at(i), i);
        }
        BENCH.same("out", x.outAt(0), MOST - 1);
    }

    private static void fullWhenCaught() {
        BENCH.about("C: then 0 is on the stack, which has at most 40 ints");
        BENCH.same("C to 40 numbers", Bench.enter(full(38), "' $0 C"), 'o');
        BENCH.breaks(full(39), "' $0 C", -3, "");
        BENCH.same("C to 40 numbers", Bench.enter(full(39), "' $2 C"), 'o');
        WordFoundry x = full(39);
        BENCH.same("-3 is thrown in it", Bench.enter(x, "' $4 C"), 'o');
        BENCH.same("what it runs has one number less", x.at(0), 0);
        x = Bench.told(": $0 1 1 1 ;");
        Bench.enterTimes(x, 39, "1");
        BENCH.same("-3 is thrown in it", Bench.enter(x, "' $0 C"), 'o');
        BENCH.same("and is on the stack", x.at(0), -3);
        BENCH.same("depth", x.depth(), MOST);
    }

    private static void neededNumbers() {
        BENCH.about("error -4 if a word needs more than the stack has");
        String[] words = {"d", "p", "s", "o", "r", "+", "-", "*", "/", "%", "<", "=", ".", "{", "a", ",", "@", "#", "e",
            "t", "C", "W", "O", "k $1", "K $2"};
        int[] needs = {1, 1, 2, 2, 3, 2, 2, 2, 2, 2, 2, 2, 1, 1, 1, 1, 1, 2, 1, 1, 1, 1, 1, 1, 1};
        for (int i = 0; i < words.length; i++) {
            for (int has = 0; has <= 4; has++) {
                WordFoundry x = Bench.told(": $0 ; f $1");
                String word = words[i].equals("/") || words[i].equals("%") ? "3 p " + words[i] : words[i];
                String numbers = Bench.times(has, words[i].equals("/") || words[i].equals("%") ? "1" : "0");
                char answer = Bench.enter(x, numbers + " " + (has == 0 ? words[i] : word));
                BENCH.same(words[i] + " with " + has, answer, has < needs[i] ? 'e' : 'o');
                BENCH.same("the error", Bench.errorOf(x), has < needs[i] ? -4 : 0);
            }
        }
        for (String word : new String[] {"h", "]", "I", "c $2", "f $2", "m $2", ": $2", "' $0", "["}) {
            BENCH.same(word + " needs none", Bench.enter(Bench.told(": $0 ;"), word) == 'e', false);
        }
    }

    private static void neededByOps() {
        BENCH.about("error -4 if a word needs more than the stack has, by ops too");
        WordFoundry x = Bench.told(": $0 ? ~ ; : $1 b 0 = u ; : $2 D L ; : $3 P T ;", ": $4 0 1 u ;");
        BENCH.breaks(x, "$0", -4, "0");
        BENCH.leaves(x, "1 $0 0 $0", "");
        BENCH.breaks(x, "$1", -4, "1");
        BENCH.breaks(x, "$2", -4, "2");
        BENCH.breaks(x, "2 $2", -4, "2");
        BENCH.leaves(x, "2 1 $2", "");
        BENCH.breaks(x, ": $5 [ $3", -4, "3");
        BENCH.same("T with a number", Bench.enter(x, ": $5 [ 8 $3 ] ;"), 'o');
        BENCH.same("ops", Bench.ops(x, 4), "n8");
    }

    private static void stackFirstThenName() {
        BENCH.about("whether it is there is looked at first, then a name is taken, and other errors come in the order "
            + "in which they are told");
        BENCH.breaks(new WordFoundry(), "K", -4, "");
        BENCH.breaks(new WordFoundry(), "k", -4, "");
        BENCH.breaks(new WordFoundry(), "K 5", -4, "");
        BENCH.breaks(new WordFoundry(), "k 5", -4, "");
        BENCH.breaks(new WordFoundry(), "1 K", -16, "");
        BENCH.breaks(new WordFoundry(), "1 k", -16, "");
        WordFoundry x = Bench.told(": $0 K ; : $1 k ; : $2 8 . ;");
        BENCH.leaves(x, "' $0 C $2", "-4");
        BENCH.leaves(x, "p ' $1 C $2", "-4");
        BENCH.same("the name was not taken", Bench.outs(x), "8 8");
        BENCH.breaks(x, "9 k $8", -13, "");
        BENCH.breaks(x, "9 k $1", -32, "");
        BENCH.breaks(x, "1 k $1", -32, "");
        BENCH.breaks(x, "f $3 9 k $3", -13, "");
        BENCH.breaks(x, "0 /", -4, "");
        BENCH.breaks(x, "100 #", -4, "");
        BENCH.breaks(x, ": $4 [ :", -16, "");
        x = Bench.told(": $0 D L ;");
        Bench.enterTimes(x, 40, "1 {");
        BENCH.breaks(x, "{", -4, "");
        Bench.enterTimes(x, 40, "1 {");
        BENCH.breaks(x, "1 $0", -4, "0");
        BENCH.breaks(x, ": $4 [ : $5", -29, "");
    }

    private static void numbersWrap() {
        BENCH.about("Both stacks have at most 40 ints, which wrap");
        BENCH.leaves(new WordFoundry(), "2147483646 1 + 2147483647 1 + 2147483647 2147483647 +",
            "2147483647 -2147483648 -2");
        BENCH.leaves(new WordFoundry(), "-2147483647 -1 + -2147483648 -1 + -2147483648 -2147483648 +",
            "-2147483648 2147483647 0");
        BENCH.leaves(new WordFoundry(), "-2147483647 1 - -2147483648 1 - 2147483647 -1 - 0 -2147483648 -",
            "-2147483648 2147483647 -2147483648 -2147483648");
        BENCH.leaves(new WordFoundry(), "46340 46340 * 46341 46341 * 65536 32768 * -2147483648 -1 *",
            "2147395600 -2147479015 -2147483648 -2147483648");
        WordFoundry x = Bench.told(": $0 D i . L ;");
        BENCH.leaves(x, "-2147483647 2147483646 $0", "");
        BENCH.same("the index of L", Bench.outs(x), "2147483646 2147483647 -2147483648");
    }

    private static void comparing() {
        BENCH.about("< =: -1 if it holds, else 0");
        BENCH.leaves(new WordFoundry(), "1 2 < 2 2 < 3 2 < -1 0 < 0 -1 <", "-1 0 0 -1 0");
        BENCH.leaves(new WordFoundry(), "-2147483648 2147483647 < 2147483647 -2147483648 <", "-1 0");
        BENCH.leaves(new WordFoundry(), "-2147483648 -2147483648 < 2147483646 2147483647 <", "0 -1");
        BENCH.leaves(new WordFoundry(), "1 2 = 2 2 = 3 2 = 0 0 = -2147483648 2147483647 =", "0 -1 0 -1 0");
        BENCH.leaves(new WordFoundry(), "-2147483648 -2147483648 = 1000 1000 =", "-1 -1");
    }

    private static void quotients() {
        BENCH.about("/ %: the quotient, rounded down, or what is left, which has the sign of b");
        int[] numbers = {0, 1, -1, 2, -2, 3, -3, 7, -7, 8, -8, 100, -100, Integer.MAX_VALUE, Integer.MAX_VALUE - 1,
            Integer.MIN_VALUE, Integer.MIN_VALUE + 1};
        for (int a : numbers) {
            for (int b : numbers) {
                if (b != 0) {
                    long down = a / (long) b;
                    if (down * b != a && (a < 0) != (b < 0)) {
                        down--;
                    }
                    int left = (int) (a - down * b);
                    BENCH.same("the sign of what is left", left == 0 || (left < 0) == (b < 0), true);
                    BENCH.leaves(new WordFoundry(), a + " " + b + " /", String.valueOf((int) down));
                    BENCH.leaves(new WordFoundry(), a + " " + b + " %", String.valueOf(left));
                }
            }
        }
    }

    private static void divisorZero() {
        BENCH.about("error -10 for b 0");
        for (String a : new String[] {"0", "1", "-1", "-2147483648", "2147483647"}) {
            BENCH.breaks(new WordFoundry(), a + " 0 /", -10, "");
            BENCH.breaks(new WordFoundry(), a + " 0 %", -10, "");
        }
        BENCH.leaves(new WordFoundry(), "0 1 / 0 -1 / 0 1 % 0 -1 %", "0 0 0 0");
    }

    private static void secondStackOutOfAllWords() {
        BENCH.about("error -6 for both if the second stack has none .., or, out of all words, any at all");
        for (String word : new String[] {"}", "_"}) {
            BENCH.breaks(new WordFoundry(), word, -6, "");
            BENCH.breaks(new WordFoundry(), "1 " + word, -6, "");
            BENCH.leaves(new WordFoundry(), "7 { " + word, "7");
            WordFoundry x = Bench.told("7 {");
            BENCH.leaves(x, word, "7");
            BENCH.same("second", x.second(), word.equals("_") ? 1 : 0);
        }
        BENCH.breaks(new WordFoundry(), "7 { } }", -6, "");
        BENCH.leaves(new WordFoundry(), "7 { _ _ }", "7 7 7");
    }

    private static void secondStackOfAWord() {
        BENCH.about("error -6 for both if the second stack has none that came since the word that is running began");
        String[] words = {"}", "_", "i"};
        for (String word : words) {
            WordFoundry x = Bench.told(": $0 " + word + " ; : $1 { " + word + " ; : $2 { $0 } ; : $3 ;");
            BENCH.breaks(x, "$0", -6, "0");
            Bench.enter(x, "7 {");
            BENCH.breaks(x, "$0", -6, "0");
            Bench.enter(x, "7 { 8 {");
            BENCH.breaks(x, "1 $2", -6, "0 2");
            Bench.enter(x, "7 {");
            BENCH.leaves(x, "' $0 C", "-6");
            BENCH.same("second", x.second(), 1);
            BENCH.same("one that came since", Bench.enter(x, "8 $1"), word.equals("}") ? 'o' : 'e');
            BENCH.same("and is left there", Bench.errorOf(x), word.equals("}") ? 0 : -25);
        }
        WordFoundry x = Bench.told(": $0 ; : $1 { $0 } ; : $2 { } } ; : $3 { { } } ;");
        BENCH.leaves(x, "7 $1", "7");
        BENCH.breaks(x, "7 $2", -6, "2");
        BENCH.leaves(x, "7 8 $3", "7 8");
        x = Bench.told("f $0 : $1 } ; ' $1 k $0 : $2 c v } ; $2 $3 7 {");
        BENCH.leaves(x, "' $0 C ' $3 C", "-6 -6");
    }

    private static void cellsOfStore() {
        BENCH.about("There are the cells 0 to 99, 0 at first; error -9 for an address that is no cell");
        WordFoundry x = new WordFoundry();
        for (int address : new int[] {0, 1, 50, 98, 99}) {
            BENCH.leaves(x, address + " @", "0");
            BENCH.leaves(x, "p " + (address + 7) + " " + address + " # " + address + " @", String.valueOf(address + 7));
            BENCH.same("cell", x.cell(address), address + 7);
            Bench.enter(x, "p");
        }
        for (int address : new int[] {-1, -2, 100, 101, Integer.MIN_VALUE, Integer.MAX_VALUE}) {
            BENCH.breaks(x, address + " @", -9, "");
            BENCH.breaks(x, "5 " + address + " #", -9, "");
        }
        BENCH.same("here has no part in it", x.here(), 0);
        BENCH.same("cell 99", x.cell(99), 106);
        BENCH.same("cell 0", x.cell(0), 7);
    }

    private static void hereByA() {
        BENCH.about("error -8 if here would be above 100 or less than 0, by a");
        int[] from = {0, 0, 0, 0, 0, 1, 1, 50, 50, 50, 50, 99, 99, 100, 100, 100, 100, 100};
        int[] by = {0, 100, 101, -1, Integer.MIN_VALUE, -1, -2, 50, 51, -50, -51, 1, 2, 0, 1, -100, -101,
            Integer.MAX_VALUE};
        for (int i = 0; i < from.length; i++) {
            WordFoundry x = Bench.told(from[i] + " a");
            BENCH.same("here", x.here(), from[i]);
            long then = (long) from[i] + by[i];
            boolean fits = then >= 0 && then <= 100;
            BENCH.same(by[i] + " a", Bench.enter(x, by[i] + " a"), fits ? 'o' : 'e');
            BENCH.same("the error", Bench.errorOf(x), fits ? 0 : -8);
            BENCH.same("here behind it", x.here(), fits ? then : from[i]);
        }
        BENCH.leaves(new WordFoundry(), "100 a h -100 a h", "100 0");
    }

    private static void hereByComma() {
        BENCH.about("error -8 if here would be above 100, by ,");
        WordFoundry x = new WordFoundry();
        for (int i = 0; i < 100; i++) {
            BENCH.same(",", Bench.enter(x, (i + 1000) + " ,"), 'o');
            BENCH.same("cell", x.cell(i), i + 1000);
        }
        BENCH.same("here", x.here(), 100);
        BENCH.breaks(x, "5 ,", -8, "");
        BENCH.same("here", x.here(), 100);
        BENCH.same("cell 99", x.cell(99), 1099);
        BENCH.same("cell 0", x.cell(0), 1000);
        BENCH.breaks(x, ",", -4, "");
        BENCH.leaves(x, "-1 a 6 ,", "");
        BENCH.same("cell 99", x.cell(99), 6);
        BENCH.leaves(x, "c $0 $0", "100");
        BENCH.breaks(x, "$0 @", -9, "");
    }

    private static void cellCalls() {
        BENCH.about("cell: 0 to 99; IndexOutOfBoundsException if there is no such cell");
        WordFoundry x = Bench.told("100 a");
        for (int address = 0; address < 100; address++) {
            BENCH.same("cell " + address, x.cell(address), 0);
        }
        for (int address : new int[] {-2, 100, 101}) {
            BENCH.fails("cell " + address, IndexOutOfBoundsException.class, () -> x.cell(address));
        }
        for (int address : FAR) {
            BENCH.fails("cell " + address, IndexOutOfBoundsException.class, () -> x.cell(address));
        }
    }

    private static void atCalls() {
        BENCH.about("at: from 0 for the uppermost one; IndexOutOfBoundsException if there is no such one");
        WordFoundry x = new WordFoundry();
        BENCH.fails("at 0 of none", IndexOutOfBoundsException.class, () -> x.at(0));
        for (int count = 1; count <= MOST; count++) {
            Bench.enter(x, String.valueOf(count));
            int many = count;
            BENCH.same("the uppermost one", x.at(0), count);
            BENCH.same("the lowest one", x.at(count - 1), 1);
            BENCH.fails("at " + count, IndexOutOfBoundsException.class, () -> x.at(many));
            BENCH.fails("at -1", IndexOutOfBoundsException.class, () -> x.at(-1));
        }
        for (int index : FAR) {
            BENCH.fails("at " + index, IndexOutOfBoundsException.class, () -> x.at(index));
        }
        Bench.enter(x, "5 t");
        BENCH.fails("at 0 behind an error", IndexOutOfBoundsException.class, () -> x.at(0));
    }

    private static void depthAndSecond() {
        BENCH.about("depth and second: how many numbers the stacks have");
        WordFoundry x = new WordFoundry();
        for (int count = 0; count < MOST; count++) {
            BENCH.same("depth", x.depth(), count);
            BENCH.same("second", x.second(), count);
            Bench.enter(x, "1 { 2");
        }
        BENCH.same("depth", x.depth(), MOST);
        BENCH.same("second", x.second(), MOST);
        Bench.enterTimes(x, MOST, "p }");
        BENCH.same("depth", x.depth(), MOST);
        BENCH.same("second", x.second(), 0);
        Bench.enterTimes(x, MOST, "p");
        BENCH.same("depth", x.depth(), 0);
    }

    private static void outCalls() {
        BENCH.about("outAt: from 0; IndexOutOfBoundsException if there is no such one");
        WordFoundry x = new WordFoundry();
        BENCH.fails("outAt 0 of none", IndexOutOfBoundsException.class, () -> x.outAt(0));
        for (int count = 1; count <= 5; count++) {
            Bench.enter(x, count + " .");
            int many = count;
            BENCH.same("outs", x.outs(), count);
            BENCH.same("the first one", x.outAt(0), 1);
            BENCH.same("the last one", x.outAt(count - 1), count);
            BENCH.fails("outAt " + count, IndexOutOfBoundsException.class, () -> x.outAt(many));
        }
        for (int index : FAR) {
            BENCH.fails("outAt " + index, IndexOutOfBoundsException.class, () -> x.outAt(index));
        }
        BENCH.breaks(x, "6 . 5 t", 5, "");
        BENCH.same("outs behind an error", Bench.outs(x), "1 2 3 4 5 6");
    }

    private static void manyOuts() {
        BENCH.about("outs: how many numbers were put out, as many as there are");
        WordFoundry x = Bench.told(": $0 " + Bench.times(18, "d .") + " ;", ": $1 " + Bench.times(26, "$0") + " ;");
        int outs = 0;
        for (int line = 0; line < 50; line++) {
            int first = outs;
            Bench.enter(x, line + " $1 p");
            outs += 26 * 18;
            BENCH.same("outs", x.outs(), outs);
            BENCH.same("the first of the line", x.outAt(first), line);
            BENCH.same("the last of the line", x.outAt(outs - 1), line);
        }
        BENCH.same("the first of all", x.outAt(0), 0);
        BENCH.same("one in the middle", x.outAt(25 * 26 * 18), 25);
    }
}
