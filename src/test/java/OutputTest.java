import java.util.NoSuchElementException;

/** Promise 7: output. */
public final class OutputTest {
    public static void main(String[] args) {
        isEmptyBeforeARun();
        answersTheValues();
        hasNoOtherIndex();
        holds32();
        isOfTheLastRun();
        isEmptyAtFirst();
        staysAfterAFailure();
        staysAfterOtherCalls();
        Check.end();
    }

    private static void dueNone(PascalMachine machine, String when, int... indices) {
        for (int index : indices) {
            Check.isThrown("index " + index + " " + when, NoSuchElementException.class, () -> machine.output(index));
        }
    }

    private static String writing(int number) {
        return "var i; begin while i<" + number + " do begin write(100-i*i); i:=i+1 end end.";
    }

    private static void isEmptyBeforeARun() {
        PascalMachine machine = new PascalMachine();
        dueNone(machine, "of a new object", 0, 1, -1);
        Check.put(machine, "begin write(5) end.");
        machine.compile();
        dueNone(machine, "before the run", 0, 1, -1);
        machine.run();
        Check.answers("after the run", 5, () -> machine.output(0));
    }

    private static void answersTheValues() {
        PascalMachine machine = Check.compiled("begin write(5); write(-6); write(0); write(65536*32768) end.");
        machine.run();
        for (int times = 0; times < 2; times++) {
            Check.answers("first", 5, () -> machine.output(0));
            Check.answers("second", -6, () -> machine.output(1));
            Check.answers("third", 0, () -> machine.output(2));
            Check.answers("fourth", Integer.MIN_VALUE, () -> machine.output(3));
        }
    }

    private static void hasNoOtherIndex() {
        for (int number : new int[] {0, 1, 3, 31, 32}) {
            PascalMachine machine = Check.compiled(writing(number));
            machine.run();
            dueNone(machine, "of " + number, number, number + 1, 32, 33, -1, -2, Integer.MAX_VALUE, Integer.MIN_VALUE);
            Check.refused("output behind the last", NoSuchElementException.class, machine, () -> machine.output(number));
            Check.refused("output before the first", NoSuchElementException.class, machine, () -> machine.output(-1));
            if (number > 0) {
                Check.answers("first of " + number, 100, () -> machine.output(0));
                int last = number - 1;
                Check.answers("last of " + number, 100 - last * last, () -> machine.output(last));
            }
        }
    }

    private static void holds32() {
        for (int number : new int[] {31, 32, 33, 34, 64, 100}) {
            int held = Math.min(32, number);
            PascalMachine machine = Check.compiled(writing(number));
            Check.answers("run of " + number, held, () -> machine.run());
            Check.answers("held of " + number, held, () -> machine.count(0));
            Check.answers("lost of " + number, number - held, () -> machine.count(1));
            for (int i = 0; i < held; i++) {
                int index = i;
                Check.answers("index " + i + " of " + number, 100 - i * i, () -> machine.output(index));
            }
            dueNone(machine, "of " + number, held, 32, 33);
        }
    }

    private static void isOfTheLastRun() {
        PascalMachine machine = Check.compiled("begin write(1); write(2) end.");
        machine.run();
        Check.replace(machine, "begin write(3) end.");
        machine.compile();
        Check.answers("compiled but not run", 1, () -> machine.output(0));
        Check.answers("second still there", 2, () -> machine.output(1));
        machine.run();
        Check.answers("of the new run", 3, () -> machine.output(0));
        dueNone(machine, "of the old run", 1);
        machine.run();
        Check.answers("run again", 3, () -> machine.output(0));
        dueNone(machine, "run again", 1);
    }

    private static void isEmptyAtFirst() {
        PascalMachine machine = Check.compiled(writing(40));
        machine.run();
        Check.replace(machine, "begin end.");
        machine.compile();
        Check.answers("run that writes none", 0, () -> machine.run());
        dueNone(machine, "of none", 0, 31);
        Check.replace(machine, "begin write(1/0) end.");
        machine.compile();
        Check.isThrown("failing run", ArithmeticException.class, () -> machine.run());
        dueNone(machine, "of a failing run", 0);
        Check.replace(machine, writing(32));
        machine.compile();
        Check.answers("run that writes all", 32, () -> machine.run());
        Check.answers("none is lost", 0, () -> machine.count(1));
    }

    private static void staysAfterAFailure() {
        PascalMachine machine = Check.compiled("var a; begin write(7); write(8); a:=1/a; write(9) end.");
        Check.isThrown("run", ArithmeticException.class, () -> machine.run());
        Due.output(machine, "a divisor 0", 7, 8);
        Check.replace(machine, "begin write(6); while 1=1 do end.");
        machine.compile();
        Check.isThrown("run without end", IllegalStateException.class, () -> machine.run());
        Due.output(machine, "a run without end", 6);
        Check.replace(machine, "proc p; begin p end; begin write(4); write(5); p end.");
        machine.compile();
        Check.isThrown("run too deep", IndexOutOfBoundsException.class, () -> machine.run());
        Due.output(machine, "a run too deep", 4, 5);
        Check.replace(machine, "begin while 1=1 do write(3) end.");
        machine.compile();
        Check.isThrown("run with too much", IllegalStateException.class, () -> machine.run());
        Check.answers("held of too much", 32, () -> machine.count(0));
        Check.answers("lost of too much", 168, () -> machine.count(1));
        Check.answers("last of too much", 3, () -> machine.output(31));
    }

    private static void staysAfterOtherCalls() {
        PascalMachine machine = Check.compiled("begin write(7); write(8) end.");
        machine.run();
        machine.append('x', 1);
        Check.isThrown("compile", IllegalArgumentException.class, () -> machine.compile());
        machine.cut(29);
        machine.fault();
        Due.output(machine, "the run before", 7, 8);
    }
}
