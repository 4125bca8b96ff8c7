import java.util.NoSuchElementException;

/** Promise 4: compile. */
public final class CompileTest {
    public static void main(String[] args) {
        answersHowManyNames();
        aFaultLeavesNoProgramWhereNoneWas();
        aFaultLeavesTheProgram();
        aFaultLeavesTheText();
        leavesTheLastRunAlone();
        aNewProgramTakesItsPlace();
        oneObjectCompilesAgainAndAgain();
        nothingStaysOfAnEarlierText();
        Check.end();
    }

    private static void answersHowManyNames() {
        Due.sound(0, "begin end.");
        Due.sound(1, "var a; begin end.");
        Due.sound(3, "var a,b,c; begin end.");
        Due.sound(1, "proc p; begin end; begin end.");
        Due.sound(3, "proc p(x,@y); begin end; begin end.");
        Due.sound(18, "var a,b,c,d,e,f; proc p(g,@h,i); var j,k,l; begin end; proc q;begin end;proc r;begin end;"
            + "proc s;begin end;proc t;begin end;proc u;begin end;begin end.");
        Due.sound(7, "var a; proc p(a); var b; proc q; begin end; begin end; proc q; var p; begin end; begin end.");
    }

    private static void aFaultLeavesNoProgramWhereNoneWas() {
        PascalMachine machine = Check.holding("begin write(1) end");
        Check.isThrown("compile with a fault", IllegalArgumentException.class, () -> machine.compile());
        Check.refused("run without a program", NoSuchElementException.class, machine, () -> machine.run());
        Check.put(machine, ".");
        Check.refused("run before the next compile", NoSuchElementException.class, machine, () -> machine.run());
        Check.answers("compile without a fault", 0, () -> machine.compile());
        Check.answers("run", 1, () -> machine.run());
    }

    private static void aFaultLeavesTheProgram() {
        PascalMachine machine = Check.compiled("var a; proc p(x,@y); begin y:=x+1 end; begin p(4,a); write(a) end.");
        for (String text : new String[] {"", "?", "begin write(2) end", "begin write(2) end. x",
            "var a; begin a:=5; write(3); write(a); b end.", "proc p(@x,y,z); begin write(9) end; begin p(1,2,3) end.",
            "proc q; begin end; proc p(@x); begin write(8) end; begin write(6); ^"}) {
            Check.replace(machine, text);
            String counts = Check.state(machine).replaceFirst("fault -?[0-9]+", "");
            Check.isThrown("compile of " + text, IllegalArgumentException.class, () -> machine.compile());
            Check.sameState("counts after " + text, machine, "fault " + machine.fault() + counts);
            Check.answers("run after " + text, 1, () -> machine.run());
            Check.answers("output after " + text, 5, () -> machine.output(0));
            Check.answers("steps after " + text, 3, () -> machine.count(2));
        }
    }

    private static void aFaultLeavesTheText() {
        PascalMachine machine = Check.holding("var a; begin a:=6; write(a+?");
        Check.isThrown("compile with a fault", IllegalArgumentException.class, () -> machine.compile());
        Check.isThrown("compile again", IllegalArgumentException.class, () -> machine.compile());
        Check.answers("fault", 27, () -> machine.fault());
        Check.answers("cut", 27, () -> machine.cut(1));
        Check.put(machine, "1) end.");
        Check.answers("compile mended", 1, () -> machine.compile());
        Check.answers("length", 34, () -> machine.count(4));
        Check.answers("compile the same again", 1, () -> machine.compile());
        Check.answers("run", 1, () -> machine.run());
        Check.answers("output", 7, () -> machine.output(0));
    }

    private static void leavesTheLastRunAlone() {
        PascalMachine machine = Check.compiled("proc p; begin write(4) end; begin p; write(5) end.");
        machine.run();
        String state = Check.state(machine);
        Check.answers("compile again", 1, () -> machine.compile());
        Check.sameState("state after a compile", machine, state);
    }

    private static void aNewProgramTakesItsPlace() {
        PascalMachine machine = Check.compiled("begin write(1) end.");
        Check.replace(machine, "begin write(2); write(3) end.");
        Check.answers("run of the old one", 1, () -> machine.run());
        Check.answers("output of the old one", 1, () -> machine.output(0));
        machine.compile();
        Check.answers("run of the new one", 2, () -> machine.run());
        Check.answers("output of the new one", 2, () -> machine.output(0));
    }

    private static void oneObjectCompilesAgainAndAgain() {
        PascalMachine machine = Check.holding(
            "var a,b,c; proc p(x,@y); var d; begin d:=x; y:=y+d; if x>0 then p(x-1,y) end; begin a:=1; p(4,c); write(c) end.");
        for (int i = 0; i < 40; i++) {
            Check.answers("compile " + i, 7, () -> machine.compile());
            Check.answers("run " + i, 1, () -> machine.run());
            Check.answers("output " + i, 10, () -> machine.output(0));
            machine.cut(1);
            Check.isThrown("compile of less " + i, IllegalArgumentException.class, () -> machine.compile());
            machine.append('.', 1);
        }
    }

    private static void nothingStaysOfAnEarlierText() {
        String references = "var a; proc p(@x,@y,@z); begin end; begin p(a,a,a) end.";
        String faulty = "var a; proc p(@b); proc q(@c); proc r(@d); begin ? end; begin end; begin end; begin end.";
        String sound = "proc p(n);proc q(m);proc r(k);begin write(n+10*m+100*k) end;begin r(m+1) end;begin q(n+1) end;"
            + "begin p(1+0) end.";
        PascalMachine machine = Check.compiled(references);
        Check.answers("compiled twice", 5, () -> machine.compile());
        for (int i = 0; i < 3; i++) {
            Check.replace(machine, faulty);
            Check.isThrown("compile of " + faulty, IllegalArgumentException.class, () -> machine.compile());
            Check.replace(machine, sound);
            Check.answers("compile of " + sound, 6, () -> machine.compile());
            Check.answers("run of " + sound, 1, () -> machine.run());
            Check.answers("output of " + sound, 321, () -> machine.output(0));
        }
        for (String text : new String[] {"begin a:=1 end.", "begin p(1) end.", "begin n:=1 end."}) {
            Check.replace(machine, text);
            Check.isThrown("compile of " + text, IllegalArgumentException.class, () -> machine.compile());
            Check.answers("fault of " + text, 6, () -> machine.fault());
        }
    }
}
