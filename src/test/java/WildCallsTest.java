import java.util.NoSuchElementException;
import java.util.Random;

/** Calls with arguments of any kind in any state: what is thrown is what the document names for the call. */
public final class WildCallsTest {
    private static final Bench BENCH = new Bench();
    private static final int[] ODD = {Integer.MIN_VALUE, -1, 0, 1, 2, 3, 5, 15, 16, 29, 30, 39, 40, 99, 100, 512,
        Integer.MAX_VALUE};
    private static final String CORE = "dpsor+-*/%<=.{}_ha,@#etC]IkWOcKfm:?~|buwgDLliXxvT['P;";

    public static void main(String[] args) {
        for (int seed = 0; seed < 400; seed++) {
            Random random = new Random(seed);
            WordFoundry x = new WordFoundry();
            for (int call = 0; call < 360; call++) {
                one(x, random);
            }
        }
        BENCH.close("WildCallsTest");
    }

    private static void one(WordFoundry x, Random random) {
        int choice = random.nextInt(48);
        int n = random.nextInt(3) == 0 ? ODD[random.nextInt(ODD.length)] : random.nextInt(12);
        int m = random.nextInt(3) == 0 ? ODD[random.nextInt(ODD.length)] : random.nextInt(12);
        if (choice < 16) {
            char core = random.nextInt(20) == 0 ? (char) random.nextInt(65536) : CORE.charAt(random.nextInt(CORE.length()));
            allowed("word", () -> x.word(core), IllegalArgumentException.class, IllegalStateException.class);
        } else if (choice < 22) {
            allowed("name", () -> x.name(n), IllegalArgumentException.class, IllegalStateException.class);
        } else if (choice < 26) {
            allowed("number", () -> x.number(n), IllegalStateException.class, null);
        } else if (choice < 29) {
            allowed("enter", () -> x.enter(), null, null);
        } else {
            ask(x, choice - 29, n, m);
        }
    }

    private static void ask(WordFoundry x, int choice, int n, int m) {
        Class<?> bounds = IndexOutOfBoundsException.class;
        switch (choice) {
            case 0: allowed("error", () -> x.error(), NoSuchElementException.class, null); break;
            case 1: allowed("traceAt", () -> x.traceAt(n), bounds, null); break;
            case 2: allowed("at", () -> x.at(n), bounds, null); break;
            case 3: allowed("cell", () -> x.cell(n), bounds, null); break;
            case 4: allowed("outAt", () -> x.outAt(n), bounds, null); break;
            case 5: allowed("nameOf", () -> x.nameOf(n), bounds, null); break;
            case 6: allowed("kindOf", () -> x.kindOf(n), bounds, null); break;
            case 7: allowed("isImmediate", () -> x.isImmediate(n), bounds, null); break;
            case 8: allowed("vocabularyOf", () -> x.vocabularyOf(n), bounds, null); break;
            case 9: allowed("find", () -> x.find(n), IllegalArgumentException.class, NoSuchElementException.class); break;
            case 10: allowed("ops", () -> x.ops(n), bounds, null); break;
            case 11: allowed("opAt", () -> x.opAt(n, m), bounds, null); break;
            case 12: allowed("opNumber", () -> x.opNumber(n, m), bounds, null); break;
            case 13: allowed("effect", () -> x.effect(n), bounds, UnsupportedOperationException.class); break;
            case 14: allowed("errorShare", () -> x.errorShare(), ArithmeticException.class, null); break;
            case 15: allowed("meanSteps", () -> x.meanSteps(), ArithmeticException.class, null); break;
            case 16: allowed("isSound", () -> x.isSound(), null, null); break;
            case 17: BENCH.same("isSound", x.isSound(), true); break;
            default: allowed("the others", () -> others(x), null, null);
        }
    }

    private static void others(WordFoundry x) {
        x.trace();
        x.depth();
        x.second();
        x.here();
        x.outs();
        x.entries();
        x.isMaking();
        x.steps();
        x.lines();
    }

    private static void allowed(String what, Bench.Call call, Class<?> one, Class<?> other) {
        Class<?> got = null;
        String where = "";
        try {
            call.run();
        } catch (RuntimeException e) {
            got = e.getClass();
            where = e.getStackTrace().length > 0 ? e.getStackTrace()[0].getMethodName() : "";
        }
        boolean right = got == null || (got == one || got == other) && where.equals(what);
        BENCH.same(what + " threw " + got + " in " + where + ", which is allowed", right, true);
    }
}
