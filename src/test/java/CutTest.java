/** Promise 3: cut. */
public final class CutTest {
    public static void main(String[] args) {
        takesTheLastOnes();
        takesUpToAll();
        refusesWhatIsNotThere();
        leavesTheTextOfARefusedCut();
        leavesNothingOfWhatItTook();
        leavesTheRestAlone();
        Check.end();
    }

    private static void takesTheLastOnes() {
        PascalMachine machine = Check.holding("begin write(7) end. x y");
        Check.isThrown("compile before", IllegalArgumentException.class, () -> machine.compile());
        Check.answers("cut 0", 23, () -> machine.cut(0));
        Check.answers("length behind cut 0", 23, () -> machine.count(4));
        Check.answers("cut 3", 20, () -> machine.cut(3));
        Check.answers("cut 1", 19, () -> machine.cut(1));
        Check.answers("length behind the cuts", 19, () -> machine.count(4));
        Check.answers("compile after", 0, () -> machine.compile());
        Check.answers("run", 1, () -> machine.run());
        Check.answers("output", 7, () -> machine.output(0));
    }

    private static void takesUpToAll() {
        for (int length : new int[] {0, 1, 8, 299, 300}) {
            PascalMachine machine = Check.holding(" ".repeat(length));
            Check.answers("cut 0 of " + length, length, () -> machine.cut(0));
            Check.refused("cut one more than " + length, IllegalArgumentException.class, machine,
                () -> machine.cut(length + 1));
            Check.answers("cut all of " + length, 0, () -> machine.cut(length));
            Check.answers("cut 0 of none", 0, () -> machine.cut(0));
            Check.refused("cut 1 of none", IllegalArgumentException.class, machine, () -> machine.cut(1));
            Check.answers("append to none", 1, () -> machine.append('.', 1));
        }
    }

    private static void refusesWhatIsNotThere() {
        for (int n : new int[] {6, 7, 300, 301, -1, -5, -6, Integer.MAX_VALUE, Integer.MIN_VALUE}) {
            PascalMachine machine = Check.holding("begin");
            Check.refused("cut " + n, IllegalArgumentException.class, machine, () -> machine.cut(n));
            Check.answers("cut 5 after " + n, 0, () -> machine.cut(5));
        }
    }

    private static void leavesTheTextOfARefusedCut() {
        PascalMachine machine = Check.holding("begin write(3) end");
        Check.refused("cut 19", IllegalArgumentException.class, machine, () -> machine.cut(19));
        Check.refused("cut -1", IllegalArgumentException.class, machine, () -> machine.cut(-1));
        Check.answers("append", 19, () -> machine.append('.', 1));
        Check.answers("compile", 0, () -> machine.compile());
        machine.run();
        Check.answers("output", 3, () -> machine.output(0));
    }

    private static void leavesNothingOfWhatItTook() {
        dueFaultOfLess("begin endx", 9);
        dueFaultOfLess("begin write(1234567890", 21);
        dueFaultOfLess("begin end.", 9);
        dueFaultOfLess("var a; begin a:=", 13);
        PascalMachine machine = Check.holding("begin write(1) end.");
        Check.replace(machine, "begin end.");
        Check.answers("compile of a shorter text", 0, () -> machine.compile());
        Check.answers("run of a shorter text", 0, () -> machine.run());
    }

    private static void dueFaultOfLess(String text, int fault) {
        PascalMachine machine = Check.holding(text);
        machine.cut(1);
        Check.isThrown("compile of less than " + text, IllegalArgumentException.class, () -> machine.compile());
        Check.answers("fault of less than " + text, fault, () -> machine.fault());
    }

    private static void leavesTheRestAlone() {
        PascalMachine machine = Check.compiled("var a; begin a:=6; write(a*7) end.");
        machine.cut(34);
        Check.answers("run", 1, () -> machine.run());
        Check.answers("output", 42, () -> machine.output(0));
        Check.answers("fault", -1, () -> machine.fault());
        Check.answers("length", 0, () -> machine.count(4));
        Check.isThrown("compile of none", IllegalArgumentException.class, () -> machine.compile());
        Check.answers("fault of none", 0, () -> machine.fault());
        machine.append('x', 1);
        machine.cut(1);
        Check.answers("fault after a cut", 0, () -> machine.fault());
        Check.answers("output after a cut", 42, () -> machine.output(0));
    }
}
