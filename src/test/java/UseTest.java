import java.util.NoSuchElementException;

/** An object is used for up to 512 calls: the last of them answers as the first ones do. */
public final class UseTest {
    private static final int CALLS = 512;
    private static final String PROGRAM =
        "var i,j;proc p(n,@x);var l;proc q;begin l:=l+n end;begin q;if n>1 then p(n-1,l);x:=x+l end;"
        + "begin p(5,j);while i<80 do begin write(i*j);i:=i+1 end end.";

    public static void main(String[] args) {
        runsToTheLastCall();
        compilesToTheLastCall();
        failsToTheLastCall();
        isRefusedToTheLastCall();
        appendsAndCutsToTheLastCall();
        Check.end();
    }

    private static int callsToPut(String text) {
        return (text.length() + 7) / 8;
    }

    private static void runsToTheLastCall() {
        PascalMachine machine = Check.compiled(PROGRAM);
        for (int made = callsToPut(PROGRAM) + 1; made < CALLS - 2; made++) {
            Check.answers("run behind " + made, 32, () -> machine.run());
        }
        Check.answers("lost as call 511", 48, () -> machine.count(1));
        Check.answers("output as call 512", 31 * 15, () -> machine.output(31));
    }

    private static void compilesToTheLastCall() {
        PascalMachine machine = Check.holding(PROGRAM);
        for (int made = callsToPut(PROGRAM); made < CALLS - 2; made++) {
            Check.answers("compile behind " + made, 7, () -> machine.compile());
        }
        Check.answers("run as call 511", 32, () -> machine.run());
        Check.answers("output as call 512", 15, () -> machine.output(1));
    }

    private static void failsToTheLastCall() {
        String text = "proc p(n); begin write(n); p(n+1) end; begin p(1) end.";
        PascalMachine machine = Check.compiled(text);
        for (int made = callsToPut(text) + 1; made < CALLS - 2; made++) {
            Check.isThrown("run behind " + made, IndexOutOfBoundsException.class, () -> machine.run());
        }
        Check.answers("calls as call 511", 10, () -> machine.count(3));
        Check.answers("output as call 512", 10, () -> machine.output(9));
    }

    private static void isRefusedToTheLastCall() {
        String text = "begin begin if 1=((1 ";
        PascalMachine machine = Check.holding(text);
        for (int made = callsToPut(text); made < CALLS - 2; made++) {
            Check.isThrown("compile behind " + made, IllegalArgumentException.class, () -> machine.compile());
        }
        Check.answers("fault as call 511", 20, () -> machine.fault());
        Check.isThrown("run as call 512", NoSuchElementException.class, () -> machine.run());
    }

    private static void appendsAndCutsToTheLastCall() {
        PascalMachine machine = new PascalMachine();
        for (int length = 1; length <= 300; length++) {
            Check.answers("append " + length, length, () -> machine.append('a', 1));
        }
        for (int made = 300; made < CALLS - 2; made += 2) {
            Check.answers("cut behind " + made, 299, () -> machine.cut(1));
            Check.answers("append behind " + made, 300, () -> machine.append('a', 1));
        }
        Check.isThrown("append as call 511", IllegalStateException.class, () -> machine.append('a', 1));
        Check.answers("length as call 512", 300, () -> machine.count(4));
    }
}
