import java.util.NoSuchElementException;

/** What is due of a text that is put into a new machine, compiled and run. */
final class Due {
    /** A token of each kind; of the names, the tests declare what they need. */
    static final String[] TOKENS = {
        "a", "p", "b", "1", ":=", ";", ",", "(", ")", ".", "=", "<", ">", "+", "-", "*", "/", "%", "@",
        "var", "proc", "begin", "end", "if", "then", "else", "while", "do", "write"};

    /** What is no token, for each of the terms' reasons. */
    static final String[] NO_TOKENS = {"?", ":", "abcdefg", "1234567890", "A", "!"};

    private Due() {
    }

    /** The text has no fault and declares so many names. */
    static void sound(int names, String text) {
        PascalMachine machine = Check.holding(text);
        Check.answers(text, names, () -> machine.compile());
        Check.answers("fault of " + text, -1, () -> machine.fault());
    }

    /** In the text, ^ stands where the fault is due, and is taken out. */
    static void fault(String marked) {
        faultAt(marked.indexOf('^'), marked.replace("^", ""));
    }

    static void faultAt(int place, String text) {
        PascalMachine machine = Check.holding(text);
        Check.isThrown(text, IllegalArgumentException.class, () -> machine.compile());
        Check.answers("fault of " + text, place, () -> machine.fault());
        Check.isThrown("run of " + text, NoSuchElementException.class, () -> machine.run());
    }

    /** The text's run puts these values out. */
    static void values(String text, int... values) {
        PascalMachine machine = Check.compiled(text);
        Check.answers("run of " + text, values.length, () -> machine.run());
        output(machine, text, values);
    }

    static void output(PascalMachine machine, String what, int... values) {
        Check.answers("values of " + what, values.length, () -> machine.count(0));
        for (int i = 0; i < values.length; i++) {
            int index = i;
            Check.answers("value " + i + " of " + what, values[i], () -> machine.output(index));
        }
        Check.isThrown("value behind those of " + what, NoSuchElementException.class,
            () -> machine.output(values.length));
    }

    /** The text's run ends without a failure after so many steps. */
    static void steps(int steps, String text) {
        PascalMachine machine = Check.compiled(text);
        Check.answers("failure of " + text, 0, () -> machine.run() - machine.count(0));
        Check.answers("steps of " + text, steps, () -> machine.count(2));
    }

    /** The text's run ends with the failure, and leaves these values. */
    static void failure(Class<? extends RuntimeException> failure, int steps, int deepest, String text,
            int... values) {
        PascalMachine machine = Check.compiled(text);
        Check.isThrown("run of " + text, failure, () -> machine.run());
        Check.answers("steps of " + text, steps, () -> machine.count(2));
        Check.answers("calls of " + text, deepest, () -> machine.count(3));
        output(machine, text, values);
    }
}
