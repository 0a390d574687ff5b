import java.util.Random;

/**
 * All promises: random lines, told to the class and to the plain model, which must answer alike. All is asked
 * behind each line, far more than the 512 calls of the document; the class does not count them.
 */
public final class FuzzTest {
    private static final int RUNS = 1500;
    private static final int LINES = 24;
    private static final String CORE = "dpsor+-*/%<=.{}_ha,@#etC]IkWOcKfm:?~|buwgDLliXxvT['P;";
    private static final String HARMLESS = "dpsor+-*<=.{}_h@";

    private final Random random;
    private final WordFoundry system = new WordFoundry();
    private final PlainModel model = new PlainModel();
    private final StringBuilder told = new StringBuilder();
    private int compared = 0;

    private FuzzTest(long seed) {
        random = new Random(seed);
    }

    public static void main(String[] args) {
        int runs = args.length > 0 ? Integer.parseInt(args[0]) : RUNS;
        int from = args.length > 1 ? Integer.parseInt(args[1]) : 0;
        long compared = 0;
        long errors = 0;
        long lines = 0;
        for (int seed = from; seed < from + runs; seed++) {
            FuzzTest test = new FuzzTest(seed);
            String difference = test.run();
            compared += test.compared;
            errors += test.model.errors;
            lines += test.model.lines;
            if (difference != null) {
                System.out.println("  seed " + seed + ": " + difference + "\n" + test.told);
                System.out.println("FuzzTest: 1 failed");
                System.exit(1);
            }
        }
        System.out.println("FuzzTest: " + compared + " passed, 0 failed, " + errors + " of " + lines + " lines with errors");
    }

    private String run() {
        for (int line = 0; line < LINES; line++) {
            fill();
            told.append('\n');
            char due = model.enter();
            char got = system.enter();
            if (got != due) {
                return "enter answered " + got + ", due is " + due + " with " + model.error;
            }
            String difference = compare();
            if (difference != null) {
                return difference;
            }
        }
        return null;
    }

    private void fill() {
        switch (random.nextInt(8)) {
            case 0:
                for (int i = random.nextInt(20); i > 0; i--) {
                    anything();
                }
                break;
            case 1:
            case 2:
            case 3:
                core(':');
                name();
                body(1 + random.nextInt(10), 3);
                core(';');
                if (random.nextInt(6) == 0) {
                    core('I');
                }
                break;
            case 4:
                make();
                make();
                break;
            case 5:
                definer();
                break;
            default:
                for (int i = random.nextInt(12); i > 0; i--) {
                    use();
                }
        }
    }

    private void core(char core) {
        if (model.line.size() < 40) {
            system.word(core);
            model.line.add(new PlainModel.Word('w', core));
            told.append(core).append(' ');
        }
    }

    private void name(int name) {
        if (model.line.size() < 40) {
            system.name(name);
            model.line.add(new PlainModel.Word('a', name));
            told.append('$').append(name).append(' ');
        }
    }

    private void number(int n) {
        if (model.line.size() < 40) {
            system.number(n);
            model.line.add(new PlainModel.Word('n', n));
            told.append(n).append(' ');
        }
    }

    private void name() {
        name(random.nextInt(10));
    }

    private void number() {
        int[] odd = {Integer.MIN_VALUE, Integer.MAX_VALUE, 99, 100, 101, -90, -1, -2, 40, 30};
        number(random.nextInt(8) == 0 ? odd[random.nextInt(odd.length)] : random.nextInt(7));
    }

    private void anything() {
        int choice = random.nextInt(10);
        if (choice < 6) {
            core(CORE.charAt(random.nextInt(CORE.length())));
        } else if (choice < 8) {
            name();
        } else {
            number();
        }
    }

    private void use() {
        int choice = random.nextInt(20);
        if (choice < 7) {
            number();
        } else if (choice < 12) {
            name();
        } else if (choice < 14) {
            core('\'');
            name();
            core("eCC".charAt(random.nextInt(3)));
        } else if (choice < 19) {
            core(HARMLESS.charAt(random.nextInt(HARMLESS.length())));
        } else {
            anything();
        }
    }

    private void make() {
        switch (random.nextInt(7)) {
            case 0:
                core('c');
                name();
                break;
            case 1:
                number();
                core('K');
                name();
                break;
            case 2:
                core('f');
                name();
                break;
            case 3:
                core('m');
                name();
                break;
            case 4:
                core('\'');
                name();
                core('k');
                name();
                break;
            case 5:
                number(random.nextInt(2));
                core(random.nextInt(2) == 0 ? 'W' : 'O');
                break;
            default:
                number();
                core(',');
        }
    }

    private void definer() {
        core(':');
        int made = random.nextInt(10);
        name(made);
        body(random.nextInt(3), 1);
        core('c');
        body(random.nextInt(3), 1);
        core('v');
        body(random.nextInt(4), 2);
        core(';');
        for (int i = random.nextInt(3); i > 0; i--) {
            number();
            name(made);
            name();
        }
    }

    private void body(int length, int deep) {
        for (int i = 0; i < length; i++) {
            int choice = random.nextInt(deep > 0 ? 24 : 17);
            if (choice < 5) {
                number();
            } else if (choice < 9) {
                core(HARMLESS.charAt(random.nextInt(HARMLESS.length())));
            } else if (choice < 12) {
                name();
            } else if (choice == 12) {
                core('P');
                if (random.nextBoolean()) {
                    name();
                } else {
                    core(CORE.charAt(random.nextInt(CORE.length())));
                }
            } else if (choice == 13) {
                core('\'');
                name();
                core("eC.".charAt(random.nextInt(3)));
            } else if (choice == 14) {
                core("xXTilt[]".charAt(random.nextInt(8)));
            } else if (choice == 15) {
                core(CORE.charAt(random.nextInt(CORE.length())));
            } else if (choice == 16) {
                core("}_{".charAt(random.nextInt(3)));
            } else {
                structure(choice - 17, deep - 1);
            }
        }
    }

    private void structure(int choice, int deep) {
        int few = random.nextInt(4);
        switch (choice) {
            case 0:
                core('?');
                body(few, deep);
                core('~');
                break;
            case 1:
                core('?');
                body(few, deep);
                core('|');
                body(few, deep);
                core('~');
                break;
            case 2:
                core('b');
                body(few, deep);
                core('u');
                break;
            case 3:
                core('b');
                body(few, deep);
                core('w');
                body(few, deep);
                core('g');
                break;
            case 4:
                core('d');
                core('?');
                number(1);
                core('-');
                core('X');
                core('~');
                break;
            default:
                number(random.nextInt(5));
                number(random.nextInt(3));
                core('D');
                body(few, deep);
                if (random.nextInt(3) == 0) {
                    core('?');
                    core('l');
                    core('~');
                }
                core('L');
        }
    }

    private String differs(String what, double got, double due) {
        compared++;
        return got == due ? null : what + " answered " + got + ", due is " + due;
    }

    private String compare() {
        String difference = first(
            differs("error", Bench.errorOf(system), model.error),
            differs("trace", system.trace(), model.trail.size()),
            differs("depth", system.depth(), model.first.size()),
            differs("second", system.second(), model.second.size()),
            differs("here", system.here(), model.here),
            differs("outs", system.outs(), model.outs.size()),
            differs("entries", system.entries(), model.entries.size()),
            differs("isMaking", system.isMaking() ? 1 : 0, model.making != null ? 1 : 0),
            differs("steps", system.steps(), model.steps),
            differs("lines", system.lines(), model.lines),
            differs("errorShare", system.errorShare(), (float) model.errors / (float) model.lines),
            differs("meanSteps", system.meanSteps(), (double) model.steps / (double) model.lines));
        if (difference == null) {
            difference = first(compareNumbers(), compareEntries(), compareFinds());
        }
        return difference != null ? difference : differs("isSound", system.isSound() ? 1 : 0, 1);
    }

    private static String first(String... differences) {
        for (String difference : differences) {
            if (difference != null) {
                return difference;
            }
        }
        return null;
    }

    private String compareNumbers() {
        String difference = null;
        for (int i = 0; i < system.trace(); i++) {
            difference = first(difference, differs("traceAt " + i, system.traceAt(i), model.trail.get(i)));
        }
        for (int i = 0; i < system.depth(); i++) {
            difference = first(difference,
                differs("at " + i, system.at(i), model.first.get(model.first.size() - 1 - i)));
        }
        for (int i = 0; i < 100; i++) {
            difference = first(difference, differs("cell " + i, system.cell(i), model.cells[i]));
        }
        for (int i = 0; i < system.outs(); i++) {
            difference = first(difference, differs("outAt " + i, system.outAt(i), model.outs.get(i)));
        }
        return difference;
    }

    private String compareEntries() {
        String difference = null;
        for (int i = 0; i < system.entries(); i++) {
            PlainModel.Entry entry = model.entries.get(i);
            difference = first(difference,
                differs("nameOf " + i, system.nameOf(i), entry.name),
                differs("kindOf " + i, system.kindOf(i), entry.kind),
                differs("isImmediate " + i, system.isImmediate(i) ? 1 : 0, entry.immediate ? 1 : 0),
                differs("vocabularyOf " + i, system.vocabularyOf(i), entry.vocabulary),
                differs("effect " + i, effectOf(i), model.effect(entry)),
                differs("ops " + i, system.ops(i), entry.ops.size()));
            for (int op = 0; difference == null && op < entry.ops.size(); op++) {
                difference = first(
                    differs("opAt " + i + " " + op, system.opAt(i, op), entry.ops.get(op).kind),
                    differs("opNumber " + i + " " + op, system.opNumber(i, op), entry.ops.get(op).number));
            }
        }
        return difference;
    }

    private long effectOf(int entry) {
        try {
            return system.effect(entry);
        } catch (UnsupportedOperationException e) {
            return PlainModel.NO_EFFECT;
        }
    }

    private String compareFinds() {
        String difference = null;
        for (int name = 0; name < 16; name++) {
            int got = -1;
            try {
                got = system.find(name);
            } catch (java.util.NoSuchElementException e) {
                got = -1;
            }
            difference = first(difference,
                differs("find " + name, got, model.entries.indexOf(model.sought(name))));
        }
        return difference;
    }
}
