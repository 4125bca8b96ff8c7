/** Promise 2: append. */
public final class AppendTest {
    public static void main(String[] args) {
        answersTheLength();
        putsTheMostSignificantFirst();
        takesTheLowestBytesAlone();
        refusesWrongNumbers();
        refusesWrongCodes();
        refusesMoreThanTheTextHolds();
        Check.end();
    }

    private static void answersTheLength() {
        PascalMachine machine = new PascalMachine();
        int length = 0;
        for (int n = 1; n <= 8; n++) {
            int taken = n;
            length += n;
            Check.answers("append " + n, length, () -> machine.append(0x2021222324252627L, taken));
        }
    }

    private static void putsTheMostSignificantFirst() {
        PascalMachine machine = new PascalMachine();
        machine.append(Check.packed("begin wr"), 8);
        machine.append(Check.packed("ite(12) "), 8);
        machine.append(Check.packed("end."), 4);
        Check.answers("compile", 0, () -> machine.compile());
        machine.run();
        Check.answers("output", 12, () -> machine.output(0));
    }

    private static void takesTheLowestBytesAlone() {
        PascalMachine machine = Check.holding("begin write(");
        Check.answers("append of -1 above two codes", 14, () -> machine.append(~0xFFFFL | Check.packed("42"), 2));
        Check.put(machine, ") end.");
        machine.compile();
        machine.run();
        Check.answers("output", 42, () -> machine.output(0));
    }

    private static void refusesWrongNumbers() {
        PascalMachine machine = new PascalMachine();
        long spaces = 0x2020202020202020L;
        for (int n : new int[] {0, 9, -1, 64, Integer.MAX_VALUE, Integer.MIN_VALUE}) {
            Check.isThrown("append n " + n, IllegalArgumentException.class, () -> machine.append(spaces, n));
        }
        Check.answers("length", 0, () -> machine.count(4));
    }

    private static void refusesWrongCodes() {
        PascalMachine machine = Check.holding("ab");
        for (int code : new int[] {0, 10, 31, 127, 128, 200, 255}) {
            Check.isThrown("code " + code, IllegalArgumentException.class, () -> machine.append(code, 1));
            Check.isThrown("last " + code, IllegalArgumentException.class, () -> machine.append(0x6100L | code, 2));
            Check.isThrown("first " + code, IllegalArgumentException.class,
                () -> machine.append((long) code << 56 | 0x61616161616161L, 8));
        }
        Check.isThrown("too few codes", IllegalArgumentException.class, () -> machine.append('a', 2));
        Check.answers("length", 2, () -> machine.count(4));
        Check.answers("lowest code", 3, () -> machine.append(32, 1));
        Check.answers("highest code", 4, () -> machine.append(126, 1));
    }

    private static void refusesMoreThanTheTextHolds() {
        PascalMachine machine = Check.holding(" ".repeat(297));
        Check.isThrown("301", IllegalStateException.class, () -> machine.append(0x20202020L, 4));
        Check.isThrown("301 with a wrong code", IllegalArgumentException.class, () -> machine.append(0x2020207FL, 4));
        Check.answers("length", 297, () -> machine.count(4));
        Check.answers("300", 300, () -> machine.append(0x202020L, 3));
        Check.isThrown("one more", IllegalStateException.class, () -> machine.append(32, 1));
        Check.isThrown("wrong n", IllegalArgumentException.class, () -> machine.append(32, 0));
        Check.answers("cut", 299, () -> machine.cut(1));
        Check.answers("300 again", 300, () -> machine.append(32, 1));
    }
}
