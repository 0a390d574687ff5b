import java.util.NoSuchElementException;

/** What the tests share: lines told as texts, and answers compared with those that are due. */
final class Bench {
    private static final int MOST_WORDS = 40;

    private int passed = 0;
    private int failed = 0;
    private String sentence = "";

    /** A call that is expected to throw. */
    interface Call {
        void run();
    }

    /**
     * Puts the words of a text behind the line: "$k" is the name k, digits are a number,
     * any other single sign a core word.
     */
    static void put(WordFoundry x, String text) {
        for (String part : text.trim().split("\\s+")) {
            if (part.isEmpty()) {
                continue;
            }
            if (part.charAt(0) == '$') {
                x.name(Integer.parseInt(part.substring(1)));
            } else if (part.length() > 1 || Character.isDigit(part.charAt(0))) {
                x.number(Integer.parseInt(part));
            } else {
                x.word(part.charAt(0));
            }
        }
    }

    static char enter(WordFoundry x, String text) {
        put(x, text);
        return x.enter();
    }

    /** A text once more and once more, with blanks between. */
    static String times(int count, String text) {
        StringBuilder all = new StringBuilder();
        for (int i = 0; i < count; i++) {
            all.append(i == 0 ? "" : " ").append(text);
        }
        return all.toString();
    }

    /** Tells a text so often as is told, in as many lines as that needs. */
    static void enterTimes(WordFoundry x, int count, String text) {
        int least = text.trim().split("\\s+").length;
        int most = MOST_WORDS / least;
        for (int left = count; left > 0; left -= most) {
            enter(x, times(Math.min(left, most), text));
        }
    }

    /** A new system that was told the lines. */
    static WordFoundry told(String... lines) {
        WordFoundry x = new WordFoundry();
        for (String line : lines) {
            enter(x, line);
        }
        return x;
    }

    static String stack(WordFoundry x) {
        StringBuilder text = new StringBuilder();
        for (int i = x.depth() - 1; i >= 0; i--) {
            text.append(text.length() == 0 ? "" : " ").append(x.at(i));
        }
        return text.toString();
    }

    static String outs(WordFoundry x) {
        StringBuilder text = new StringBuilder();
        for (int i = 0; i < x.outs(); i++) {
            text.append(i == 0 ? "" : " ").append(x.outAt(i));
        }
        return text.toString();
    }

    static String ops(WordFoundry x, int entry) {
        StringBuilder text = new StringBuilder();
        for (int i = 0; i < x.ops(entry); i++) {
            char kind = x.opAt(entry, i);
            int number = x.opNumber(entry, i);
            text.append(i == 0 ? "" : " ").append(kind);
            if (kind == 'w' || kind == 'q' || kind == 'M') {
                text.append((char) number);
            } else if (kind != 'D' && kind != 'x' && kind != 'X' && kind != 'v') {
                text.append(number);
            } else if (number != 0) {
                text.append("?").append(number);
            }
        }
        return text.toString();
    }

    static String trail(WordFoundry x) {
        StringBuilder text = new StringBuilder();
        for (int i = 0; i < x.trace(); i++) {
            text.append(i == 0 ? "" : " ").append(x.traceAt(i));
        }
        return text.toString();
    }

    /** The sentence of the document to which the comparisons belong that follow. */
    void about(String told) {
        sentence = told;
    }

    void same(String what, long got, long due) {
        note(got == due, what + " answered " + got + ", due is " + due);
    }

    void same(String what, char got, char due) {
        note(got == due, what + " answered " + got + ", due is " + due);
    }

    void same(String what, String got, String due) {
        note(got.equals(due), what + " answered \"" + got + "\", due is \"" + due + "\"");
    }

    void same(String what, boolean got, boolean due) {
        note(got == due, what + " answered " + got + ", due is " + due);
    }

    void same(String what, double got, double due) {
        note(got == due, what + " answered " + got + ", due is " + due);
    }

    void fails(String what, Class<? extends RuntimeException> due, Call call) {
        Class<?> got = null;
        try {
            call.run();
        } catch (RuntimeException e) {
            got = e.getClass();
        }
        note(got == due, what + " threw " + got + ", due is " + due);
    }

    /** A line on a system that it leaves without an error, with the first stack that is due. */
    void leaves(WordFoundry x, String line, String stack) {
        char answer = enter(x, line);
        note(answer != 'e', "\"" + line + "\" ended with the error " + errorOf(x));
        same("the stack after \"" + line + "\"", stack(x), stack);
    }

    /** A line that ends with an error, with the entries that were running as it came. */
    void breaks(WordFoundry x, String line, int error, String trail) {
        same("\"" + line + "\"", enter(x, line), 'e');
        same("the error of \"" + line + "\"", errorOf(x), error);
        same("the trace of \"" + line + "\"", trail(x), trail);
        same("the stacks after \"" + line + "\"", x.depth() + x.second(), 0);
        same("making after \"" + line + "\"", x.isMaking(), false);
    }

    static int errorOf(WordFoundry x) {
        try {
            return x.error();
        } catch (NoSuchElementException e) {
            return 0;
        }
    }

    private void note(boolean right, String text) {
        if (right) {
            passed++;
        } else {
            failed++;
            System.out.println("  " + (sentence.isEmpty() ? "" : "[" + sentence + "] ") + text);
        }
    }

    /** Tells the counts, and ends the program with 1 if a comparison failed. */
    void close(String test) {
        System.out.println(test + ": " + passed + " passed, " + failed + " failed");
        if (failed > 0) {
            System.exit(1);
        }
    }
}
