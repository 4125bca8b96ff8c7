import java.util.NoSuchElementException;

/** What a refused call leaves as it was, shown by all that can be asked and by the later calls. */
public final class RefusalTest {
    private static final long BLANKS = 0x2020202020202020L;
    private static final String PROGRAM = "var i; proc p(@x); begin write(x); x:=x+1 end; begin while i<34 do p(i) end.";

    /** A refused call on a machine that has been used. */
    private interface Refusal {
        long call(PascalMachine machine);
    }

    public static void main(String[] args) {
        Class<IllegalArgumentException> argument = IllegalArgumentException.class;
        leavesAll("append n 0", argument, machine -> machine.append(BLANKS, 0));
        leavesAll("append n 9", argument, machine -> machine.append(BLANKS, 9));
        leavesAll("append code 31", argument, machine -> machine.append(0x311FL, 2));
        leavesAll("append code 127", argument, machine -> machine.append(0x317FL, 2));
        leavesAll("append code 127 first", argument, machine -> machine.append(0x7F31L, 2));
        leavesAll("cut -1", argument, machine -> machine.cut(-1));
        leavesAll("cut one too many", argument, machine -> machine.cut(15));
        leavesAll("compile", argument, machine -> machine.compile());
        leavesAll("output -1", NoSuchElementException.class, machine -> machine.output(-1));
        leavesAll("output 32", NoSuchElementException.class, machine -> machine.output(32));
        leavesAll("count -1", argument, machine -> machine.count(-1));
        leavesAll("count 5", argument, machine -> machine.count(5));
        aFullTextStays();
        Check.end();
    }

    /** A machine with a program, its output, some lost values, a fault, and a text that is not the program's. */
    private static PascalMachine used() {
        PascalMachine machine = Check.compiled(PROGRAM);
        machine.run();
        Check.replace(machine, "begin write(41");
        Check.isThrown("compile of the half text", IllegalArgumentException.class, () -> machine.compile());
        return machine;
    }

    private static void leavesAll(String what, Class<? extends RuntimeException> due, Refusal refusal) {
        PascalMachine machine = used();
        String state = Check.state(machine);
        for (int i = 0; i < 2; i++) {
            Check.refused(what, due, machine, () -> refusal.call(machine));
        }
        Check.answers("run after " + what, 32, () -> machine.run());
        Check.sameState("state after " + what + " and a run", machine, state);
        Check.isThrown("compile after " + what, IllegalArgumentException.class, () -> machine.compile());
        Check.sameState("state after " + what + " and a compile", machine, state);
        Check.put(machine, ") end.");
        Check.answers("compile of the whole text after " + what, 0, () -> machine.compile());
        Check.answers("run of the whole text after " + what, 1, () -> machine.run());
        Check.answers("output of the whole text after " + what, 41, () -> machine.output(0));
    }

    private static void aFullTextStays() {
        PascalMachine machine = Check.compiled("begin write(6) end." + " ".repeat(281));
        machine.run();
        for (int n = 1; n <= 8; n++) {
            int taken = n;
            Check.refused("append " + n + " to 300", IllegalStateException.class, machine, () -> machine.append(BLANKS, taken));
        }
        Check.refused("append of a sign to 300", IllegalStateException.class, machine, () -> machine.append('x', 1));
        Check.answers("compile of 300", 0, () -> machine.compile());
        Check.answers("run of 300", 1, () -> machine.run());
        Check.answers("output of 300", 6, () -> machine.output(0));
        Check.answers("cut of 300", 299, () -> machine.cut(1));
        Check.answers("compile of 299", 0, () -> machine.compile());
    }
}
