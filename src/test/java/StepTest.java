/** The terms' steps: what counts as one, how many a run has, and how many calls stand within one another. */
public final class StepTest {
    private static final String DECLARATIONS = "var i; proc p; begin end; proc q(x); begin end; begin ";
    // 199 rounds of a test and an assignment, and the last test.
    private static final String STEPS_399 = "while i<199 do i:=i+1; ";
    private static final String STEPS_400 = "i:=0; " + STEPS_399;

    public static void main(String[] args) {
        eachStatementCountsOne();
        whatIsNoStep();
        eachTestingOfAWhileCounts();
        the400thStepIsMade();
        the401stStepIsTheFailure();
        the401stStepComesBeforeItsExpressions();
        aRunWithoutEndEndsAtTheLimit();
        tenCallsWithinOneAnother();
        anEleventhCallIsTheFailure();
        callsBehindOneAnotherAreNotWithin();
        anEleventhCallCountsAsAStep();
        argumentsOfAnEleventhCallAreEvaluated();
        theEleventhCallAsTheLastStep();
        Check.end();
    }

    private static void eachStatementCountsOne() {
        Due.steps(0, "begin end.");
        Due.steps(1, "var a; begin a:=1 end.");
        Due.steps(1, "begin write(1) end.");
        Due.steps(1, "proc p; begin end; begin p end.");
        Due.steps(1, "begin if 1=1 then end.");
        Due.steps(1, "begin if 1=2 then end.");
        Due.steps(1, "begin while 1=2 do end.");
        Due.steps(2, "begin if 1=1 then write(1) else begin write(2); write(3) end end.");
        Due.steps(3, "begin if 1=2 then write(1) else begin write(2); write(3) end end.");
        Due.steps(4, "proc p; begin write(1) end; begin p; p end.");
        Due.steps(3, "proc p; begin end; begin p; if 1=1 then p else p end.");
        Due.steps(6, "proc p(n); begin if n>0 then p(n-1) end; begin p(2); end.");
    }

    private static void whatIsNoStep() {
        Due.steps(0, "begin ;begin end; begin ; begin end end end.");
        Due.steps(0, "var a,b; proc p(x); begin write(x) end; begin end.");
        Due.steps(1, "var a; begin a:=1+2*(3-4)/5%(6+a) end.");
        Due.steps(1, "proc p(x,y,z); begin end; begin p(1+1,2*(3),4) end.");
    }

    private static void eachTestingOfAWhileCounts() {
        Due.steps(3, "var i; begin while i<1 do i:=i+1 end.");
        Due.steps(8, "var i; begin while i<3 do i:=i+1; write(i) end.");
        // Three outer tests, and twice two assignments, three inner tests and their two assignments.
        Due.steps(17, "var i,j; begin while i<2 do begin j:=0; while j<2 do j:=j+1; i:=i+1 end end.");
    }

    private static void the400thStepIsMade() {
        Due.steps(399, DECLARATIONS + STEPS_399 + "end.");
        for (String step : new String[] {"i:=7", "if i=1 then", "while i=1 do", "p", "q(1)"}) {
            Due.steps(400, DECLARATIONS + STEPS_399 + step + " end.");
            Due.steps(400, DECLARATIONS + STEPS_399 + step + "; begin end; end.");
        }
        Due.steps(400, DECLARATIONS + STEPS_399 + "write(i) end.");
        Due.values(DECLARATIONS + STEPS_399 + "write(i) end.", 199);
        Due.values(DECLARATIONS + "write(1); while i<198 do i:=i+1; i:=50; write(i) end.", 1, 50);
        Due.steps(400, "var i; proc p; begin write(i) end; begin i:=0; while i<198 do i:=i+1; p end.");
    }

    private static void the401stStepIsTheFailure() {
        for (String step : new String[] {"i:=7", "write(7)", "if 1=1 then", "while 1=2 do", "p", "q(1)"}) {
            Due.failure(IllegalStateException.class, 400, 0, DECLARATIONS + STEPS_400 + step + " end.");
            Due.failure(IllegalStateException.class, 400, 0, DECLARATIONS + STEPS_400 + "begin ; " + step + " end end.");
            Due.failure(IllegalStateException.class, 400, 0,
                DECLARATIONS + STEPS_399 + "write(i);" + step + "; write(8) end.", 199);
        }
        // The 400th step is the call, the 401st its write.
        Due.failure(IllegalStateException.class, 400, 1,
            "var i; proc p; begin write(i) end; begin " + STEPS_399 + "p end.");
    }

    private static void the401stStepComesBeforeItsExpressions() {
        for (String step : new String[] {"i:=1/0", "write(1/0)", "if 1/0=1 then", "while 1%0=1 do", "q(1/0)"}) {
            Due.failure(ArithmeticException.class, 400, 0, DECLARATIONS + STEPS_399 + step + " end.");
            Due.failure(IllegalStateException.class, 400, 0, DECLARATIONS + STEPS_400 + step + " end.");
        }
    }

    private static void aRunWithoutEndEndsAtTheLimit() {
        Due.failure(IllegalStateException.class, 400, 0, "begin while 1=1 do end.");
        Due.failure(IllegalStateException.class, 400, 0, "begin while 1=1 do while 1=2 do end.");
        Due.failure(IllegalStateException.class, 400, 0, "begin while 1=1 do if 1=1 then begin end else end.");
        Due.failure(IllegalStateException.class, 400, 1, "proc p; begin end; begin while 1=1 do p end.");
        Due.failure(IllegalStateException.class, 400, 0, "var a; begin while a<1 do a:=a-1 end.");
        Due.failure(IllegalStateException.class, 400, 2,
            "proc p; proc q; begin while 1=1 do end; begin q end; begin p end.");
    }

    private static void tenCallsWithinOneAnother() {
        for (int depth = 1; depth <= 10; depth++) {
            PascalMachine machine = Check.compiled(
                "proc p(n); begin if n>1 then p(n-1) else write(7) end; begin p(" + depth + ") end.");
            Check.answers("run " + depth + " deep", 1, () -> machine.run());
            Check.answers("calls " + depth + " deep", depth, () -> machine.count(3));
            Check.answers("steps " + depth + " deep", 2 * depth + 1, () -> machine.count(2));
        }
        Due.values("proc p(n); begin if n>1 then p(n-1) else write(n) end; begin p(10); p(10) end.", 1, 1);
        Due.values("proc p(n); proc q; begin p(n-2) end; begin write(n); if n>2 then q end; begin p(10) end.",
            10, 8, 6, 4, 2);
    }

    private static void anEleventhCallIsTheFailure() {
        Due.failure(IndexOutOfBoundsException.class, 11, 10, "proc p; begin p end; begin p end.");
        Due.failure(IndexOutOfBoundsException.class, 11, 10, "proc p; proc q; begin p end; begin q end; begin p end.");
        Due.failure(IndexOutOfBoundsException.class, 21, 10,
            "proc p(n); begin if n>1 then p(n-1) else write(n) end; begin p(11) end.");
        Due.failure(IndexOutOfBoundsException.class, 21, 10,
            "proc p(n); begin write(n); p(n+1) end; begin p(0); write(77) end.", 0, 1, 2, 3, 4, 5, 6, 7, 8, 9);
        // The failure ends all the calls at once: none of them writes behind it.
        Due.failure(IndexOutOfBoundsException.class, 11, 10, "proc p; begin p; write(1) end; begin p; write(2) end.");
        // An empty procedure, and one that is declared within the tenth, is a call too many as well.
        Due.failure(IndexOutOfBoundsException.class, 21, 10,
            "proc e; begin end; proc p(n); begin if n>1 then p(n-1) else e end; begin p(10) end.");
        Due.failure(IndexOutOfBoundsException.class, 21, 10,
            "proc p(n); proc e; begin end; begin if n>1 then p(n-1) else e end; begin p(10) end.");
        Due.values("proc e; begin write(3) end; proc p(n); begin if n>1 then p(n-1) else e end; begin p(9) end.", 3);
    }

    private static void callsBehindOneAnotherAreNotWithin() {
        Due.values("var i; proc p; begin i:=i+1 end; begin while i<20 do p; write(i) end.", 20);
        Due.values("proc e; begin end; proc p(n); begin e; if n>1 then p(n-1); e; e end; begin p(9); p(9); write(1) end.", 1);
    }

    private static void anEleventhCallCountsAsAStep() {
        // 377 or 379 steps of the while, a call and an if for each of ten calls, the eleventh call, and maybe i:=0.
        String calls = "var i; proc p(n); begin if n=1 then while i<%d do i:=i+1; p(n-1) end; begin %s p(10) end.";
        Due.failure(IndexOutOfBoundsException.class, 398, 10, String.format(calls, 188, ""));
        Due.failure(IndexOutOfBoundsException.class, 399, 10, String.format(calls, 188, "i:=0;"));
        Due.failure(IndexOutOfBoundsException.class, 400, 10, String.format(calls, 189, ""));
        Due.failure(IllegalStateException.class, 400, 10, String.format(calls, 189, "i:=0;"));
    }

    private static void argumentsOfAnEleventhCallAreEvaluated() {
        String text = "proc p(n); begin p(1/(n-1)*0+n-1) end; begin p(%d) end.";
        Due.failure(ArithmeticException.class, 10, 9, String.format(text, 9));
        Due.failure(ArithmeticException.class, 11, 10, String.format(text, 10));
        Due.failure(IndexOutOfBoundsException.class, 11, 10, String.format(text, 11));
        Due.failure(ArithmeticException.class, 11, 10,
            "var a; proc p(@x,n); begin p(x,1/(n-1)*0+n-1) end; begin p(a,10) end.");
    }

    private static void theEleventhCallAsTheLastStep() {
        String text = "var i; proc p(n); begin if n=1 then while i<%d do i:=i+1; p(1/(n-1)*0+n-1) end; begin %s p(10) end.";
        Due.failure(ArithmeticException.class, 400, 10, String.format(text, 189, ""));
        Due.failure(IllegalStateException.class, 400, 10, String.format(text, 189, "i:=0;"));
    }
}
