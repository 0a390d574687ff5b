/** Promises 9 to 15: both stacks, here, the cells and what is put out, with the core words that change them. */
public final class StacksTest {
    private static final Bench BENCH = new Bench();
    private static final String FORTY = "0 1 2 3 4 5 6 7 8 9 10 11 12 13 14 15 16 17 18 19 "
            + "20 21 22 23 24 25 26 27 28 29 30 31 32 33 34 35 36 37 38 39";

    public static void main(String[] args) {
        moving();
        reckoning();
        dividing();
        fewAndMany();
        asking();
        secondStack();
        secondStackOfWords();
        cells();
        hereAndComma();
        puttingOut();
        BENCH.close("StacksTest");
    }

    private static void moving() {
        BENCH.leaves(new WordFoundry(), "1 d", "1 1");
        BENCH.leaves(new WordFoundry(), "1 2 p", "1");
        BENCH.leaves(new WordFoundry(), "1 2 s", "2 1");
        BENCH.leaves(new WordFoundry(), "1 2 o", "1 2 1");
        BENCH.leaves(new WordFoundry(), "1 2 3 r", "2 3 1");
        BENCH.leaves(new WordFoundry(), "0 1 2 3 r", "0 2 3 1");
    }

    private static void reckoning() {
        BENCH.leaves(new WordFoundry(), "7 3 +", "10");
        BENCH.leaves(new WordFoundry(), "7 3 -", "4");
        BENCH.leaves(new WordFoundry(), "7 -3 *", "-21");
        BENCH.leaves(new WordFoundry(), "2147483647 1 +", "-2147483648");
        BENCH.leaves(new WordFoundry(), "-2147483648 1 -", "2147483647");
        BENCH.leaves(new WordFoundry(), "65536 65536 *", "0");
        BENCH.leaves(new WordFoundry(), "1 2 < 2 1 < 2 2 <", "-1 0 0");
        BENCH.leaves(new WordFoundry(), "-2147483648 2147483647 <", "-1");
        BENCH.leaves(new WordFoundry(), "1 2 = 2 2 =", "0 -1");
    }

    private static void dividing() {
        BENCH.leaves(new WordFoundry(), "7 2 / -7 2 / 7 -2 / -7 -2 /", "3 -4 -4 3");
        BENCH.leaves(new WordFoundry(), "7 2 % -7 2 % 7 -2 % -7 -2 %", "1 1 -1 -1");
        BENCH.leaves(new WordFoundry(), "6 3 / 6 3 % -6 3 / -6 3 %", "2 0 -2 0");
        BENCH.leaves(new WordFoundry(), "-2147483648 -1 / -2147483648 -1 %", "-2147483648 0");
        BENCH.breaks(new WordFoundry(), "7 0 /", -10, "");
        BENCH.breaks(new WordFoundry(), "7 0 %", -10, "");
        BENCH.breaks(new WordFoundry(), "0 /", -4, "");
    }

    private static void fewAndMany() {
        String words = "dpsor+-*/%<=.{a,@#etCkWOK";
        int[] needs = {1, 1, 2, 2, 3, 2, 2, 2, 2, 2, 2, 2, 1, 1, 1, 1, 1, 2, 1, 1, 1, 1, 1, 1, 1};
        for (int i = 0; i < words.length(); i++) {
            StringBuilder line = new StringBuilder();
            for (int n = 1; n < needs[i]; n++) {
                line.append("1 ");
            }
            BENCH.breaks(new WordFoundry(), line.append(words.charAt(i)).toString(), -4, "");
        }
        for (String more : new String[] {"1", "h", "d", "o", "' $0", "$0"}) {
            WordFoundry x = Bench.told("5 K $0", FORTY);
            BENCH.same("forty numbers", x.depth(), 40);
            BENCH.breaks(x, more, -3, "");
        }
        WordFoundry x = Bench.told("c $0", FORTY);
        BENCH.breaks(x, "$0", -3, "");
        x = Bench.told(FORTY);
        BENCH.leaves(x, "p d s p", FORTY.substring(0, FORTY.length() - 3));
    }

    private static void asking() {
        WordFoundry x = Bench.told("4 5 6");
        BENCH.same("depth", x.depth(), 3);
        BENCH.same("at 0", x.at(0), 6);
        BENCH.same("at 1", x.at(1), 5);
        BENCH.same("at 2", x.at(2), 4);
        for (int index : new int[] {-1, 3, 40, Integer.MIN_VALUE, Integer.MAX_VALUE}) {
            BENCH.fails("at " + index, IndexOutOfBoundsException.class, () -> x.at(index));
        }
        Bench.enter(x, "p p p");
        BENCH.fails("at 0 of the empty stack", IndexOutOfBoundsException.class, () -> x.at(0));
    }

    private static void secondStack() {
        WordFoundry x = new WordFoundry();
        BENCH.leaves(x, "1 2 { {", "");
        BENCH.same("second", x.second(), 2);
        BENCH.leaves(x, "_", "1");
        BENCH.same("second after _", x.second(), 2);
        BENCH.leaves(x, "} }", "1 1 2");
        BENCH.same("second after }", x.second(), 0);
        BENCH.breaks(x, "}", -6, "");
        BENCH.breaks(x, "_", -6, "");
        x = Bench.told("9 {", FORTY);
        BENCH.breaks(x, "}", -3, "");
        x = Bench.told("9 {", FORTY);
        BENCH.breaks(x, "_", -3, "");
        x = new WordFoundry();
        for (int i = 0; i < 40; i++) {
            Bench.enter(x, i + " {");
        }
        BENCH.same("forty numbers on the second stack", x.second(), 40);
        BENCH.breaks(x, "1 {", -3, "");
        x = Bench.told(": $0 D L ;", "1 { 2 {");
        BENCH.same("second", x.second(), 2);
        BENCH.leaves(x, "3 2 $0", "");
        BENCH.same("second stays over a loop", x.second(), 2);
    }

    private static void secondStackOfWords() {
        WordFoundry x = Bench.told(": $0 } ; : $1 _ ; : $2 { ; : $3 { } ; : $4 { _ } ;");
        Bench.enter(x, "5 {");
        BENCH.breaks(x, "$0", -6, "0");
        Bench.enter(x, "5 {");
        BENCH.breaks(x, "$1", -6, "1");
        BENCH.breaks(x, "7 $2", -25, "2");
        BENCH.leaves(x, "7 $3", "7");
        BENCH.leaves(x, "8 $4", "7 8 8");
        Bench.enter(x, ": $5 { $0 } ;");
        BENCH.breaks(x, "1 $5", -6, "0 5");
        Bench.enter(x, ": $6 { $4 } ;");
        BENCH.leaves(x, "3 4 $6", "3 3 4");
        Bench.enter(x, ": $7 { x ;");
        BENCH.breaks(x, "1 $7", -25, "7");
        Bench.enter(x, ": $8 c { v p ;");
        BENCH.breaks(x, "1 $8 $9", -25, "8");
    }

    private static void cells() {
        WordFoundry x = new WordFoundry();
        BENCH.leaves(x, "42 0 # 43 99 # 0 @ 99 @", "42 43");
        BENCH.same("cell 0", x.cell(0), 42);
        BENCH.same("cell 99", x.cell(99), 43);
        BENCH.same("cell 1", x.cell(1), 0);
        BENCH.same("here", x.here(), 0);
        for (int address : new int[] {-1, 100, Integer.MIN_VALUE, Integer.MAX_VALUE}) {
            BENCH.fails("cell " + address, IndexOutOfBoundsException.class, () -> x.cell(address));
            BENCH.breaks(x, address + " @", -9, "");
            BENCH.breaks(x, "1 " + address + " #", -9, "");
        }
        BENCH.same("cells stay after an error", x.cell(0), 42);
        BENCH.leaves(x, "-5 0 #", "");
        BENCH.same("cell 0 is changed", x.cell(0), -5);
    }

    private static void hereAndComma() {
        WordFoundry x = new WordFoundry();
        BENCH.leaves(x, "7 , 8 , h", "2");
        BENCH.same("here", x.here(), 2);
        BENCH.same("cell 1", x.cell(1), 8);
        BENCH.leaves(x, "98 a h", "2 100");
        BENCH.breaks(x, "5 ,", -8, "");
        BENCH.same("here stays", x.here(), 100);
        BENCH.breaks(x, "1 a", -8, "");
        BENCH.breaks(x, "2147483647 a", -8, "");
        BENCH.breaks(x, "-101 a", -8, "");
        BENCH.breaks(x, "-2147483648 a", -8, "");
        BENCH.leaves(x, "-1 a 6 , h", "100");
        BENCH.same("cell 99", x.cell(99), 6);
        BENCH.leaves(x, "-100 a h", "100 0");
        BENCH.same("what was in use stays in the cells", x.cell(1), 8);
        BENCH.leaves(x, "0 a h", "100 0 0");
    }

    private static void puttingOut() {
        WordFoundry x = new WordFoundry();
        BENCH.leaves(x, "1 . 2 . 3", "3");
        BENCH.same("outs", Bench.outs(x), "1 2");
        for (int index : new int[] {-1, 2, Integer.MIN_VALUE, Integer.MAX_VALUE}) {
            BENCH.fails("outAt " + index, IndexOutOfBoundsException.class, () -> x.outAt(index));
        }
        BENCH.breaks(x, "4 . 0 0 /", -10, "");
        BENCH.same("outs stay after an error", Bench.outs(x), "1 2 4");
        Bench.enter(x, ": $0 b d . 1 - d 0 = u p ;");
        for (int line = 0; line < 10; line++) {
            Bench.enter(x, "100 $0");
        }
        BENCH.same("many outs", x.outs(), 3 + 10 * 100);
        BENCH.same("the last of many outs", x.outAt(3 + 10 * 100 - 1), 1);
    }
}
