import java.util.NoSuchElementException;

/** Promise 6: run. */
public final class RunTest {
    public static void main(String[] args) {
        needsAProgram();
        answersHowManyValues();
        runsTheProgramAndNotTheText();
        leavesTheTextAndTheFault();
        statements();
        theLongestProgramsRun();
        runsAreAlike();
        aFailureLeavesTheProgram();
        failuresLeaveNothingBehind();
        Check.end();
    }

    private static void needsAProgram() {
        PascalMachine machine = Check.holding("begin write(1) end");
        Check.refused("run before a compile", NoSuchElementException.class, machine, () -> machine.run());
        Check.isThrown("compile", IllegalArgumentException.class, () -> machine.compile());
        Check.refused("run after a fault", NoSuchElementException.class, machine, () -> machine.run());
        Check.answers("fault", 18, () -> machine.fault());
        Check.answers("text", 19, () -> machine.append('.', 1));
        Check.answers("compile of what was there", 0, () -> machine.compile());
        Check.answers("run after a compile", 1, () -> machine.run());
        Check.answers("output", 1, () -> machine.output(0));
    }

    private static void answersHowManyValues() {
        for (int number : new int[] {0, 1, 2, 31, 32}) {
            PascalMachine machine = Check.compiled("var i; begin while i<" + number + " do begin i:=i+1; write(i) end end.");
            Check.answers("run of " + number, number, () -> machine.run());
            Check.answers("run of " + number + " again", number, () -> machine.run());
        }
        // What is lost is not in the output.
        PascalMachine machine = Check.compiled("var i; begin while i<33 do begin i:=i+1; write(i) end end.");
        Check.answers("run of 33", 32, () -> machine.run());
    }

    private static void runsTheProgramAndNotTheText() {
        PascalMachine machine = Check.compiled("begin write(1) end.");
        Check.replace(machine, "begin write(2) end.");
        Check.answers("run of another text", 1, () -> machine.run());
        Check.answers("output of another text", 1, () -> machine.output(0));
        machine.cut(19);
        Check.answers("run of no text", 1, () -> machine.run());
        Check.answers("output of no text", 1, () -> machine.output(0));
    }

    private static void leavesTheTextAndTheFault() {
        PascalMachine machine = Check.compiled("begin write(4/2) end.");
        machine.cut(2);
        Check.isThrown("compile of less", IllegalArgumentException.class, () -> machine.compile());
        Check.answers("run", 1, () -> machine.run());
        Check.answers("fault", 17, () -> machine.fault());
        Check.answers("length", 19, () -> machine.count(4));
        Check.put(machine, "d.");
        Check.answers("compile of more", 0, () -> machine.compile());
    }

    private static void statements() {
        Due.values("begin end.");
        Due.values("var a; begin write(a); a:=a+1; write(a); a:=a*10; write(a) end.", 0, 1, 10);
        Due.values("begin if 1=1 then write(1); if 1=2 then write(2); if 1<2 then write(3); if 2<2 then write(4);"
            + "if 2>1 then write(5); if 2>2 then write(6) end.", 1, 3, 5);
        Due.values("begin if 1=1 then write(1) else write(2); if 1=2 then write(3) else write(4) end.", 1, 4);
        Due.values("begin if 1=1 then if 1=2 then write(1) else write(2); if 1=2 then if 1=1 then write(3) else write(4) end.", 2);
        Due.values("begin if 1=2 then begin if 1=1 then write(1) end else write(2) end.", 2);
        Due.values("begin if 1=2 then begin write(1); write(2) end; write(3) end.", 3);
        Due.values("begin if 1=1 then else write(1); if 1=2 then else write(2) end.", 2);
        Due.values("begin if 1=2 then while 1=1 do if 1=1 then write(1) else write(2) else write(3) end.", 3);
        Due.values("begin if 1=1 then if 1=1 then if 1=2 then write(1) else write(2) else write(3) else write(4) end.", 2);
        Due.values("begin if 1=2 then if 1=1 then if 1=2 then write(1) else write(2) else write(3) else write(4) end.", 4);
        Due.values("begin if 1=2 then; write(1); if 1=1 then else; write(2); while 1=2 do; write(3) end.", 1, 2, 3);
        Due.values("var i; begin while i<3 do begin i:=i+1; write(i) end; write(9) end.", 1, 2, 3, 9);
        Due.values("var i,j; begin while i<2 do begin j:=0; while j<2 do begin write(10*i+j); j:=j+1 end; i:=i+1 end end.",
            0, 1, 10, 11);
        Due.values("begin while 1=2 do write(1) end.");
        Due.values("var a; begin if -a<1 then write(-5) end.", -5);
    }

    private static void theLongestProgramsRun() {
        String whiles = "while 1=0 do ".repeat(8) + ";";
        Due.values("proc p;begin end;begin " + whiles + whiles + "p;".repeat(27) + "write(7)end.", 7);
        Due.values("var a;begin " + "a:=a+1;".repeat(23) + "write(a)end.", 23);
        Due.values("begin write(" + "1+".repeat(71) + "1)end.", 72);
        Due.values("begin write(" + "2*".repeat(30) + "1)end.", 1073741824);
    }

    private static void runsAreAlike() {
        PascalMachine machine = Check.compiled("var a; proc p(@x); var l; begin x:=x+1; l:=l+1; write(x+l) end; begin p(a); p(a) end.");
        for (int i = 0; i < 5; i++) {
            Check.answers("run " + i, 2, () -> machine.run());
            Due.output(machine, "run " + i, 2, 3);
        }
        Check.replace(machine, "proc p(n); begin write(n); p(n/n+n) end; begin p(1) end.");
        machine.compile();
        for (int i = 0; i < 3; i++) {
            Check.isThrown("failing run " + i, IndexOutOfBoundsException.class, () -> machine.run());
            Due.output(machine, "failing run " + i, 1, 2, 3, 4, 5, 6, 7, 8, 9, 10);
            Check.equal("steps of failing run " + i, machine.count(2), 21);
        }
    }

    private static void aFailureLeavesTheProgram() {
        PascalMachine machine = Check.compiled("var a; begin a:=a+1; write(a); while a=1 do if a=1 then end.");
        for (int i = 0; i < 3; i++) {
            Check.isThrown("failing run " + i, IllegalStateException.class, () -> machine.run());
            Check.answers("steps of failing run " + i, 400, () -> machine.count(2));
            Due.output(machine, "failing run " + i, 1);
        }
        Check.answers("compile after failures", 1, () -> machine.compile());
        Check.isThrown("run after a compile", IllegalStateException.class, () -> machine.run());
    }

    private static void failuresLeaveNothingBehind() {
        String deep = "1+1*(".repeat(8) + "1+1*1" + ")".repeat(8);
        PascalMachine machine = Check.compiled("proc p(x,y); begin write(1+2*(3+4/(x-y))) end; begin p(1,1) end.");
        for (int i = 0; i < 30; i++) {
            Check.isThrown("failing run " + i, ArithmeticException.class, () -> machine.run());
        }
        Check.replace(machine, "var a; begin write(a); write(" + deep + ") end.");
        machine.compile();
        Check.answers("run after failures", 2, () -> machine.run());
        Due.output(machine, "run after failures", 0, 10);
        Check.equal("calls after failures", machine.count(3), 0);
    }
}
