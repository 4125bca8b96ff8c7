/** Promise 8: count. */
public final class CountTest {
    public static void main(String[] args) {
        countsOfARun();
        countsTheLost();
        countsCalls();
        countsTheText();
        countsOfAFailure();
        staysUntilTheNextRun();
        refusesOtherNumbers();
        Check.end();
    }

    private static void due(PascalMachine machine, String when, int... counts) {
        for (int what = 0; what < counts.length; what++) {
            int asked = what;
            Check.answers(when + ", count " + what, counts[what], () -> machine.count(asked));
        }
    }

    private static void countsOfARun() {
        PascalMachine machine = Check.compiled("var a; proc p; begin write(a) end; begin a:=2; p; p end.");
        due(machine, "before the run", 0, 0, 0, 0, 56);
        machine.run();
        due(machine, "after the run", 2, 0, 5, 1, 56);
        machine.run();
        due(machine, "after the second run", 2, 0, 5, 1, 56);
    }

    private static void countsTheLost() {
        PascalMachine machine = new PascalMachine();
        for (int number : new int[] {31, 32, 33, 35, 40, 32}) {
            Check.replace(machine, "var i; begin while i<" + number + " do begin write(i); i:=i+1 end end.");
            machine.compile();
            machine.run();
            due(machine, number + " written", Math.min(32, number), Math.max(0, number - 32), 3 * number + 1, 0);
        }
        Check.replace(machine, "begin write(1) end.");
        machine.compile();
        machine.run();
        due(machine, "one written", 1, 0, 1, 0);
    }

    private static void countsCalls() {
        PascalMachine machine = Check.compiled(
            "proc p; begin end; proc q; begin p; p end; proc r; begin q; p end; begin p; r; q; p end.");
        machine.run();
        due(machine, "calls", 0, 0, 10, 3);
        Check.replace(machine, "proc p; begin end; begin p; p; p end.");
        machine.compile();
        machine.run();
        due(machine, "calls behind one another", 0, 0, 3, 1);
        Check.replace(machine, "proc p; begin p end; begin if 1=2 then p end.");
        machine.compile();
        machine.run();
        due(machine, "no call", 0, 0, 1, 0);
    }

    private static void countsTheText() {
        PascalMachine machine = new PascalMachine();
        for (int length = 1; length <= 300; length++) {
            machine.append('a', 1);
            if (length == 1 || length == 150 || length >= 299) {
                due(machine, "length " + length, 0, 0, 0, 0, length);
            }
        }
        Check.isThrown("append", IllegalStateException.class, () -> machine.append('a', 1));
        due(machine, "after a refused append", 0, 0, 0, 0, 300);
        machine.cut(299);
        due(machine, "after a cut", 0, 0, 0, 0, 1);
        machine.cut(1);
        due(machine, "after the last cut", 0, 0, 0, 0, 0);
    }

    private static void countsOfAFailure() {
        PascalMachine machine = Check.compiled("proc p; begin while 1=1 do write(1) end; begin p end.");
        Check.isThrown("run without end", IllegalStateException.class, () -> machine.run());
        due(machine, "after a run without end", 32, 167, 400, 1, 53);
        Check.replace(machine, "proc p; begin write(1); write(2); p end; begin p end.");
        machine.compile();
        Check.isThrown("run too deep", IndexOutOfBoundsException.class, () -> machine.run());
        due(machine, "after a run too deep", 20, 0, 31, 10, 53);
        Check.replace(machine, "begin write(0/0) end.");
        machine.compile();
        Check.isThrown("divisor 0", ArithmeticException.class, () -> machine.run());
        due(machine, "after a divisor 0", 0, 0, 1, 0, 21);
    }

    private static void staysUntilTheNextRun() {
        PascalMachine machine = Check.compiled("proc p(n); begin write(n/n); p(n-1) end; begin p(3) end.");
        Check.isThrown("run", ArithmeticException.class, () -> machine.run());
        due(machine, "after the failure", 3, 0, 8, 4, 56);
        Check.replace(machine, "begin end.");
        due(machine, "with another text", 3, 0, 8, 4, 10);
        machine.compile();
        due(machine, "with another program", 3, 0, 8, 4, 10);
        Check.put(machine, "x");
        Check.isThrown("compile", IllegalArgumentException.class, () -> machine.compile());
        due(machine, "with a fault", 3, 0, 8, 4, 11);
        machine.run();
        due(machine, "after the next run", 0, 0, 0, 0, 11);
    }

    private static void refusesOtherNumbers() {
        for (int what : new int[] {5, -1, 6, -2, 256, 260, Integer.MAX_VALUE, Integer.MIN_VALUE}) {
            PascalMachine machine = Check.compiled("proc p; begin write(1) end; begin p end.");
            Check.refused("count " + what + " before a run", IllegalArgumentException.class, machine,
                () -> machine.count(what));
            machine.run();
            Check.refused("count " + what, IllegalArgumentException.class, machine, () -> machine.count(what));
        }
    }
}
