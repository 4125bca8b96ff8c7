/** What README.md shows of the use of the class answers as it says there. */
public final class ReadmeTest {
    public static void main(String[] args) {
        theFirstProgram();
        theProcedureThatCallsItself();
        theFaultAndTheFailure();
        Check.end();
    }

    private static void theFirstProgram() {
        PascalMachine machine = new PascalMachine();
        Check.answers("the first append", 8, () -> machine.append(0x626567696e207772L, 8));
        Check.answers("the second append", 16, () -> machine.append(0x697465283629656eL, 8));
        Check.answers("the last append", 18, () -> machine.append(0x642eL, 2));
        Check.answers("compile", 0, () -> machine.compile());
        Check.answers("run", 1, () -> machine.run());
        Check.answers("output", 6, () -> machine.output(0));
    }

    private static void theProcedureThatCallsItself() {
        PascalMachine machine = new PascalMachine();
        put(machine, "var i,f; "
            + "proc fac(n,@r); begin r:=1; if n>1 then begin fac(n-1,r); r:=r*n end end; "
            + "begin while i<3 do begin i:=i+1; fac(i,f); write(f) end end.");
        Check.answers("compile of fac", 5, () -> machine.compile());
        Check.answers("run of fac", 3, () -> machine.run());
        Due.output(machine, "fac", 1, 2, 6);
    }

    private static void theFaultAndTheFailure() {
        PascalMachine machine = new PascalMachine();
        put(machine, "begin write(7); write(1/0) end");
        Check.isThrown("compile without the dot", IllegalArgumentException.class, () -> machine.compile());
        Check.answers("fault without the dot", 30, () -> machine.fault());
        put(machine, ".");
        Check.answers("compile with the dot", 0, () -> machine.compile());
        Check.answers("fault with the dot", -1, () -> machine.fault());
        Check.isThrown("run", ArithmeticException.class, () -> machine.run());
        Check.answers("values after the failure", 1, () -> machine.count(0));
        Check.answers("output after the failure", 7, () -> machine.output(0));
    }

    /** The loop as README.md has it, and so not that of Check. */
    private static void put(PascalMachine machine, String text) {
        for (int start = 0; start < text.length(); start += 8) {
            int end = Math.min(text.length(), start + 8);
            long value = 0;
            for (int i = start; i < end; i++) {
                value = value << 8 | text.charAt(i);
            }
            machine.append(value, end - start);
        }
    }
}
