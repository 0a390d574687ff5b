import java.util.NoSuchElementException;

/** Promises 1 to 8: a new object, the words of a line, entering it, its error and its trace. */
public final class LinesTest {
    private static final Bench BENCH = new Bench();

    public static void main(String[] args) {
        aNewObject();
        coreWords();
        names();
        numbers();
        fullLine();
        entering();
        errors();
        traces();
        BENCH.close("LinesTest");
    }

    private static void aNewObject() {
        WordFoundry x = new WordFoundry();
        BENCH.same("entries of a new object", x.entries(), 0);
        BENCH.same("depth of a new object", x.depth(), 0);
        BENCH.same("second of a new object", x.second(), 0);
        BENCH.same("here of a new object", x.here(), 0);
        BENCH.same("outs of a new object", x.outs(), 0);
        BENCH.same("trace of a new object", x.trace(), 0);
        BENCH.same("steps of a new object", x.steps(), 0);
        BENCH.same("lines of a new object", x.lines(), 0);
        BENCH.same("making of a new object", x.isMaking(), false);
        BENCH.same("soundness of a new object", x.isSound(), true);
        for (int address = 0; address < 100; address++) {
            BENCH.same("cell of a new object", x.cell(address), 0);
        }
        for (int name = 0; name < 16; name++) {
            int sought = name;
            BENCH.fails("find of a new object", NoSuchElementException.class, () -> x.find(sought));
        }
        BENCH.same("the empty line interprets", x.enter(), 'o');
        BENCH.same("a number is done by a new object", Bench.enter(x, "7"), 'o');
        BENCH.same("stack", Bench.stack(x), "7");
    }

    private static void coreWords() {
        String known = "dpsor+-*/%<=.{}_ha,@#etC]IkWOcKfm:?~|buwgDLliXxvT['P;";
        for (int sign = 0; sign < 65536; sign++) {
            char core = (char) sign;
            WordFoundry x = sign < 256 || sign > 65500 ? new WordFoundry() : null;
            if (x == null) {
                continue;
            }
            if (known.indexOf(core) >= 0) {
                BENCH.same("word " + core, x.word(core), 1);
                BENCH.same("word " + core + " again", x.word(core), 2);
            } else {
                BENCH.fails("word " + sign, IllegalArgumentException.class, () -> x.word(core));
                BENCH.same("a refused word is not put", x.number(1), 1);
            }
        }
    }

    private static void names() {
        WordFoundry x = new WordFoundry();
        for (int name = 0; name < 16; name++) {
            BENCH.same("name", x.name(name), name + 1);
        }
        for (int name : new int[] {-1, 16, 17, Integer.MIN_VALUE, Integer.MAX_VALUE}) {
            BENCH.fails("name " + name, IllegalArgumentException.class, () -> x.name(name));
        }
        BENCH.same("a refused name is not put", x.name(0), 17);
    }

    private static void numbers() {
        WordFoundry x = new WordFoundry();
        BENCH.same("number", x.number(Integer.MIN_VALUE), 1);
        BENCH.same("number", x.number(Integer.MAX_VALUE), 2);
        BENCH.same("number", x.number(0), 3);
        BENCH.same("enter", x.enter(), 'o');
        BENCH.same("stack", Bench.stack(x), "-2147483648 2147483647 0");
        BENCH.same("the line is empty after enter", x.number(5), 1);
    }

    private static void fullLine() {
        WordFoundry x = new WordFoundry();
        for (int i = 1; i <= 40; i++) {
            BENCH.same("word of a line", x.word('h'), i);
        }
        BENCH.fails("the 41st word", IllegalStateException.class, () -> x.word('h'));
        BENCH.fails("the 41st name", IllegalStateException.class, () -> x.name(3));
        BENCH.fails("the 41st number", IllegalStateException.class, () -> x.number(3));
        BENCH.fails("a wrong word on a full line", IllegalArgumentException.class, () -> x.word('!'));
        BENCH.fails("a wrong name on a full line", IllegalArgumentException.class, () -> x.name(16));
        BENCH.same("a full line", x.enter(), 'o');
        BENCH.same("depth", x.depth(), 40);
        BENCH.same("steps", x.steps(), 40);
        BENCH.same("a word after it", x.word('h'), 1);
        BENCH.breaks(x, "", -3, "");
    }

    private static void entering() {
        WordFoundry x = new WordFoundry();
        BENCH.same("a line that is done", Bench.enter(x, "1 2 +"), 'o');
        BENCH.same("a line that begins a word", Bench.enter(x, ": $1 d"), 'c');
        BENCH.same("the empty line while compiling", x.enter(), 'c');
        BENCH.same("a number is compiled", Bench.enter(x, "9"), 'c');
        BENCH.same("depth while compiling", x.depth(), 1);
        BENCH.same("a line that ends a word", Bench.enter(x, "* ;"), 'o');
        BENCH.same("ops over lines", Bench.ops(x, 0), "wd n9 w*");
        BENCH.same("an error", Bench.enter(x, "4 p p p"), 'e');
        BENCH.same("both stacks are empty", x.depth(), 0);
        BENCH.same("] without a word being made", Bench.enter(x, "]"), 'c');
        BENCH.breaks(x, "1", -14, "");
        BENCH.same("interprets after an error", Bench.enter(x, "1"), 'o');
        BENCH.same("what stands behind an error is not read", Bench.enter(x, "p p 3 . 4"), 'e');
        BENCH.same("outs", x.outs(), 0);
        BENCH.same("[ without a word being made", Bench.enter(x, "["), 'o');
    }

    private static void errors() {
        WordFoundry x = new WordFoundry();
        BENCH.fails("error of a new object", NoSuchElementException.class, () -> x.error());
        BENCH.breaks(x, "p", -4, "");
        BENCH.same("error stays", x.error(), -4);
        BENCH.same("error while a line is told", x.number(5), 1);
        BENCH.same("error while a line is told", x.error(), -4);
        BENCH.same("enter", x.enter(), 'o');
        BENCH.fails("error of a line without one", NoSuchElementException.class, () -> x.error());
        BENCH.breaks(x, "77 t", 77, "");
        BENCH.breaks(x, "-2147483648 t", Integer.MIN_VALUE, "");
        BENCH.same("enter", x.enter(), 'o');
        BENCH.fails("error of an empty line", NoSuchElementException.class, () -> x.error());
    }

    private static void traces() {
        WordFoundry x = Bench.told(": $0 0 / ; : $1 $0 ; : $2 $1 ;");
        BENCH.breaks(x, "5 $2", -10, "0 1 2");
        BENCH.fails("traceAt -1", IndexOutOfBoundsException.class, () -> x.traceAt(-1));
        BENCH.fails("traceAt 3", IndexOutOfBoundsException.class, () -> x.traceAt(3));
        BENCH.breaks(x, "5 $1", -10, "0 1");
        BENCH.fails("traceAt 2", IndexOutOfBoundsException.class, () -> x.traceAt(2));
        BENCH.breaks(x, "5 0 /", -10, "");
        BENCH.fails("traceAt 0", IndexOutOfBoundsException.class, () -> x.traceAt(0));
        BENCH.breaks(x, "5 $2", -10, "0 1 2");
        BENCH.same("enter", x.enter(), 'o');
        BENCH.same("trace of a line without an error", x.trace(), 0);
        BENCH.breaks(x, "5 ' $2 e", -10, "0 1 2");
        Bench.enter(x, ": $3 1 - X ;");
        BENCH.breaks(x, "$3", -4, "3");
        StringBuilder thirty = new StringBuilder();
        for (int i = 0; i < 30; i++) {
            thirty.append(i == 0 ? "" : " ").append(3);
        }
        BENCH.breaks(x, "1 $3", -5, thirty.toString());
        Bench.enter(x, ": $4 b 0 u ;");
        BENCH.breaks(x, "$4", -90, "");
        Bench.enter(x, ": $5 -90 t ;");
        BENCH.breaks(x, "$5", -90, "");
        Bench.enter(x, "f $6 ' $0 k $6");
        BENCH.breaks(x, "5 $6", -10, "0 6");
        Bench.enter(x, "f $7");
        BENCH.breaks(x, "$7", -13, "");
        Bench.enter(x, ": $8 c v 0 / ; $8 $9");
        BENCH.breaks(x, "$9", -10, "9");
        BENCH.same("the entry of a trace", x.traceAt(0), x.find(9));
    }
}
