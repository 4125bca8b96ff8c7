/** Promise 8: count. */
public final class CountTest {
    public static void main(String[] args) {
        countsOfARun();
        countsTheLost();
        countsCalls();
        staysUntilTheNextRun();
        refusesOtherNumbers();
        Check.end();
    }

    private static void due(PascalMachine machine, String when, int... counts) {
        for (int what = 0; what < counts.length; what++) {
            int asked = what;
            Check.answers(when + ", count " + what, counts[what], () -> machine.count(asked));
        }
    }

    private static void countsOfARun() {
        PascalMachine machine = Check.compiled("var a; proc p; begin write(a) end; begin a:=2; p; p end.");
        due(machine, "before the run", 0, 0, 0, 0, 56);
        machine.run();
        due(machine, "after the run", 2, 0, 5, 1, 56);
        machine.run();
        due(machine, "after the second run", 2, 0, 5, 1, 56);
    }

    private static void countsTheLost() {
        PascalMachine machine = Check.compiled("var i; begin while i<35 do begin write(i); i:=i+1 end end.");
        machine.run();
        due(machine, "35 written", 32, 3, 106, 0);
        Check.replace(machine, "begin write(1) end.");
        machine.compile();
        machine.run();
        due(machine, "one written", 1, 0, 1, 0);
    }

    private static void countsCalls() {
        PascalMachine machine = Check.compiled(
            "proc p; begin end; proc q; begin p; p end; proc r; begin q; p end; begin p; r; q; p end.");
        machine.run();
        due(machine, "calls", 0, 0, 10, 3);
    }

    private static void staysUntilTheNextRun() {
        PascalMachine machine = Check.compiled("proc p(n); begin write(n/n); p(n-1) end; begin p(3) end.");
        Check.isThrown("run", ArithmeticException.class, () -> machine.run());
        due(machine, "after the failure", 3, 0, 8, 4, 56);
        Check.replace(machine, "begin end.");
        due(machine, "with another text", 3, 0, 8, 4, 10);
        machine.compile();
        due(machine, "with another program", 3, 0, 8, 4, 10);
        Check.put(machine, "x");
        Check.isThrown("compile", IllegalArgumentException.class, () -> machine.compile());
        due(machine, "with a fault", 3, 0, 8, 4, 11);
        machine.run();
        due(machine, "after the next run", 0, 0, 0, 0, 11);
    }

    private static void refusesOtherNumbers() {
        PascalMachine machine = Check.compiled("begin end.");
        for (int what : new int[] {5, -1, 6, Integer.MAX_VALUE, Integer.MIN_VALUE}) {
            Check.isThrown("count " + what, IllegalArgumentException.class, () -> machine.count(what));
        }
    }
}
