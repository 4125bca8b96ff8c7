import java.util.NoSuchElementException;

/** Promise 7: output. */
public final class OutputTest {
    public static void main(String[] args) {
        answersTheValues();
        holds32();
        isOfTheLastRun();
        staysAfterAFailure();
        Check.end();
    }

    private static void answersTheValues() {
        PascalMachine machine = Check.compiled("begin write(5); write(-6); write(0) end.");
        Check.isThrown("before the run", NoSuchElementException.class, () -> machine.output(0));
        machine.run();
        Check.answers("first", 5, () -> machine.output(0));
        Check.answers("second", -6, () -> machine.output(1));
        Check.answers("third", 0, () -> machine.output(2));
        for (int index : new int[] {3, 31, 32, -1, Integer.MAX_VALUE, Integer.MIN_VALUE}) {
            Check.isThrown("index " + index, NoSuchElementException.class, () -> machine.output(index));
        }
    }

    private static void holds32() {
        PascalMachine machine = Check.compiled("var i; begin while i<40 do begin write(i*i); i:=i+1 end end.");
        Check.answers("run", 32, () -> machine.run());
        for (int i = 0; i < 32; i++) {
            int index = i;
            Check.answers("index " + i, i * i, () -> machine.output(index));
        }
        Check.isThrown("index 32", NoSuchElementException.class, () -> machine.output(32));
    }

    private static void isOfTheLastRun() {
        PascalMachine machine = Check.compiled("begin write(1); write(2) end.");
        machine.run();
        Check.replace(machine, "begin write(3) end.");
        machine.compile();
        Check.answers("compiled but not run", 1, () -> machine.output(0));
        Check.answers("second still there", 2, () -> machine.output(1));
        machine.run();
        Check.answers("of the new run", 3, () -> machine.output(0));
        Check.isThrown("of the old run", NoSuchElementException.class, () -> machine.output(1));
        machine.run();
        Check.answers("run again", 3, () -> machine.output(0));
        Check.isThrown("run again is empty at first", NoSuchElementException.class, () -> machine.output(1));
    }

    private static void staysAfterAFailure() {
        PascalMachine machine = Check.compiled("var a; begin write(7); write(8); a:=1/a; write(9) end.");
        Check.isThrown("run", ArithmeticException.class, () -> machine.run());
        Check.answers("first", 7, () -> machine.output(0));
        Check.answers("second", 8, () -> machine.output(1));
        Check.isThrown("third", NoSuchElementException.class, () -> machine.output(2));
    }
}
