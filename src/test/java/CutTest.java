/** Promise 3: cut. */
public final class CutTest {
    public static void main(String[] args) {
        takesTheLastOnes();
        refusesWhatIsNotThere();
        leavesNothingOfWhatItTook();
        leavesTheProgramAlone();
        Check.end();
    }

    private static void takesTheLastOnes() {
        PascalMachine machine = Check.holding("begin write(7) end. x y");
        Check.isThrown("compile before", IllegalArgumentException.class, () -> machine.compile());
        Check.answers("cut 0", 23, () -> machine.cut(0));
        Check.answers("cut 3", 20, () -> machine.cut(3));
        Check.answers("cut 1", 19, () -> machine.cut(1));
        Check.answers("compile after", 0, () -> machine.compile());
        Check.answers("run", 1, () -> machine.run());
        Check.answers("cut all", 0, () -> machine.cut(19));
        Check.answers("cut none of none", 0, () -> machine.cut(0));
        Check.answers("append", 1, () -> machine.append('.', 1));
    }

    private static void refusesWhatIsNotThere() {
        PascalMachine machine = Check.holding("begin");
        for (int n : new int[] {6, 300, -1, Integer.MAX_VALUE, Integer.MIN_VALUE}) {
            Check.isThrown("cut " + n, IllegalArgumentException.class, () -> machine.cut(n));
        }
        Check.answers("length", 5, () -> machine.count(4));
        Check.answers("cut 5", 0, () -> machine.cut(5));
        Check.isThrown("cut 1 of none", IllegalArgumentException.class, () -> machine.cut(1));
    }

    private static void leavesNothingOfWhatItTook() {
        dueFaultOfLess("begin endx", 9);
        dueFaultOfLess("begin write(1234567890", 21);
        dueFaultOfLess("begin end.", 9);
        dueFaultOfLess("var a; begin a:=", 13);
    }

    private static void dueFaultOfLess(String text, int fault) {
        PascalMachine machine = Check.holding(text);
        machine.cut(1);
        Check.isThrown("compile of less than " + text, IllegalArgumentException.class, () -> machine.compile());
        Check.answers("fault of less than " + text, fault, () -> machine.fault());
    }

    private static void leavesTheProgramAlone() {
        PascalMachine machine = Check.compiled("var a; begin a:=6; write(a*7) end.");
        machine.cut(34);
        Check.answers("run", 1, () -> machine.run());
        Check.answers("output", 42, () -> machine.output(0));
        Check.answers("fault", -1, () -> machine.fault());
    }
}
