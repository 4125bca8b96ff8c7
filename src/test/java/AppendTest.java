/** Promise 2: append. */
public final class AppendTest {
    private static final String PROGRAM = "var a; begin a:=12; write(a*3) end.";
    private static final long BLANKS = 0x2020202020202020L;

    public static void main(String[] args) {
        answersTheLength();
        putsTheMostSignificantFirst();
        takesTheLowestBytesAlone();
        takesOneToEight();
        takesCodesFrom32To126();
        putsNothingOfARefusedValue();
        takesUpTo300();
        refusesWrongArgumentsOfAFullTextFirst();
        Check.end();
    }

    private static void answersTheLength() {
        PascalMachine machine = new PascalMachine();
        int length = 0;
        for (int n = 1; n <= 8; n++) {
            int taken = n;
            length += n;
            Check.answers("append " + n, length, () -> machine.append(0x2021222324252627L, taken));
            Check.answers("length behind " + n, length, () -> machine.count(4));
        }
    }

    private static void putsTheMostSignificantFirst() {
        for (int n = 1; n <= 8; n++) {
            PascalMachine machine = new PascalMachine();
            for (int start = 0; start < PROGRAM.length(); start += n) {
                String part = PROGRAM.substring(start, Math.min(PROGRAM.length(), start + n));
                machine.append(Check.packed(part), part.length());
            }
            Check.answers("compile in parts of " + n, 1, () -> machine.compile());
            Check.answers("run in parts of " + n, 1, () -> machine.run());
            Check.answers("output in parts of " + n, 36, () -> machine.output(0));
        }
    }

    private static void takesTheLowestBytesAlone() {
        for (long above : new long[] {~0xFFFFL, 0x7F0000L, 0x1F0000L, 0x610000L, Long.MIN_VALUE}) {
            PascalMachine machine = Check.holding("begin write(");
            Check.answers("two codes below " + above, 14, () -> machine.append(above | Check.packed("42"), 2));
            Check.put(machine, ") end.");
            Check.answers("compile", 0, () -> machine.compile());
            machine.run();
            Check.answers("output", 42, () -> machine.output(0));
        }
    }

    private static void takesOneToEight() {
        for (int n : new int[] {0, 9, -1, 10, 16, 64, 256, 257, Integer.MAX_VALUE, Integer.MIN_VALUE}) {
            PascalMachine machine = Check.holding("begin");
            Check.refused("append n " + n, IllegalArgumentException.class, machine, () -> machine.append(BLANKS, n));
        }
        Check.answers("n 1", 1, () -> new PascalMachine().append(BLANKS, 1));
        Check.answers("n 8", 8, () -> new PascalMachine().append(BLANKS, 8));
    }

    private static void takesCodesFrom32To126() {
        for (int n = 1; n <= 8; n++) {
            for (int at = 0; at < n; at++) {
                for (int code = 0; code <= 255; code++) {
                    dueCode(code, at, n);
                }
            }
        }
        Check.isThrown("too few codes", IllegalArgumentException.class, () -> new PascalMachine().append('a', 2));
        Check.isThrown("negative value", IllegalArgumentException.class, () -> new PascalMachine().append(-1, 8));
    }

    private static void dueCode(int code, int at, int n) {
        PascalMachine machine = new PascalMachine();
        long value = BLANKS & ~(0xFFL << 8 * at) | (long) code << 8 * at;
        String what = "code " + code + " at " + at + " of " + n;
        if (code >= 32 && code <= 126) {
            Check.answers(what, n, () -> machine.append(value, n));
        } else {
            Check.isThrown(what, IllegalArgumentException.class, () -> machine.append(value, n));
            Check.answers("length after " + what, 0, () -> machine.count(4));
        }
    }

    private static void putsNothingOfARefusedValue() {
        PascalMachine machine = Check.holding("begin write(5) end");
        Check.refused("wrong last code", IllegalArgumentException.class, machine, () -> machine.append(0x2E7FL, 2));
        Check.refused("wrong first code", IllegalArgumentException.class, machine, () -> machine.append(0x1F2EL, 2));
        Check.isThrown("compile without its dot", IllegalArgumentException.class, () -> machine.compile());
        Check.answers("fault without its dot", 18, () -> machine.fault());
        Check.put(machine, " ".repeat(281));
        Check.refused("a 301st", IllegalStateException.class, machine, () -> machine.append(0x2E20L, 2));
        Check.isThrown("compile with blanks", IllegalArgumentException.class, () -> machine.compile());
        Check.answers("fault with blanks", 18, () -> machine.fault());
        Check.answers("the 300th", 300, () -> machine.append('.', 1));
        Check.answers("compile", 0, () -> machine.compile());
    }

    private static void takesUpTo300() {
        for (int n = 1; n <= 8; n++) {
            int taken = n;
            PascalMachine fits = Check.holding(" ".repeat(300 - n));
            Check.answers(n + " up to 300", 300, () -> fits.append(BLANKS, taken));
            Check.refused("one more", IllegalStateException.class, fits, () -> fits.append(' ', 1));
            Check.refused("eight more", IllegalStateException.class, fits, () -> fits.append(BLANKS, 8));
            PascalMachine full = Check.holding(" ".repeat(301 - n));
            Check.refused(n + " up to 301", IllegalStateException.class, full, () -> full.append(BLANKS, taken));
            Check.answers("cut", 300 - n, () -> full.cut(1));
            Check.answers(n + " up to 300 after a cut", 300, () -> full.append(BLANKS, taken));
        }
    }

    private static void refusesWrongArgumentsOfAFullTextFirst() {
        PascalMachine machine = Check.holding(" ".repeat(300));
        Check.refused("n 0", IllegalArgumentException.class, machine, () -> machine.append(BLANKS, 0));
        Check.refused("n 9", IllegalArgumentException.class, machine, () -> machine.append(BLANKS, 9));
        Check.refused("code 31", IllegalArgumentException.class, machine, () -> machine.append(31, 1));
        Check.refused("code 127", IllegalArgumentException.class, machine, () -> machine.append(0x207FL, 2));
        Check.refused("n 1", IllegalStateException.class, machine, () -> machine.append(126, 1));
    }
}
