import java.util.NoSuchElementException;

/** Promise 4: compile. */
public final class CompileTest {
    public static void main(String[] args) {
        answersHowManyNames();
        takesWhatTheGrammarTells();
        takesTheMostThatMayBe();
        aFaultLeavesTheProgram();
        aNewProgramTakesItsPlace();
        oneObjectCompilesAgainAndAgain();
        nothingStaysOfAnEarlierText();
        Check.end();
    }

    private static void due(int names, String text) {
        PascalMachine machine = Check.holding(text);
        Check.answers(text, names, () -> machine.compile());
        Check.answers("fault of " + text, -1, () -> machine.fault());
    }

    private static void answersHowManyNames() {
        due(0, "begin end.");
        due(1, "var a; begin end.");
        due(3, "var a,b,c; begin end.");
        due(1, "proc p; begin end; begin end.");
        due(3, "proc p(x,@y); begin end; begin end.");
        due(7, "var a; proc p(a); var b; proc q; begin end; begin end; proc q; var p; begin end; begin end.");
    }

    private static void takesWhatTheGrammarTells() {
        due(0, "  begin   end  .  ");
        due(0, "begin;;;end.");
        due(0, "begin begin end; begin ; end end.");
        due(0, "begin if 1=1 then end.");
        due(0, "begin if 1<1 then else end.");
        due(0, "begin if 1>1 then if 1=2 then else else end.");
        due(0, "begin while 1=0 do end.");
        due(0, "begin write(-1+2-3*4/5%6) end.");
        due(0, "begin write(-(-(-1))) end.");
        due(0, "begin write(1)end.");
        due(1, "var a;begin a:=1;if a=1then write(2)else a:=3end.");
        due(1, "var end1; begin end1:=1 end.");
        due(2, "proc p(p); begin p:=1 end; begin p(1) end.");
        due(3, "var a; proc p(a); begin a:=1 end; begin p(a) end.");
        due(2, "proc p; begin p end; proc q; begin p; q end; begin q; p end.");
        due(3, "proc p; var p; begin p:=1 end; proc q; begin p end; begin p; q end.");
        due(5, "var a; proc p(@x,y); begin end; proc q; begin p(a,a+1) end; begin q; p(a,(a)) end.");
    }

    private static void takesTheMostThatMayBe() {
        due(1, "var abcdef; begin end.");
        due(1, "var a12345; begin end.");
        due(0, "begin write(999999999) end.");
        due(0, "begin write(000000001) end.");
        due(12, "var a,b,c,d,e,f,g,h,i,j,k,l; begin end.");
        due(13, "var a,b,c,d,e,f; proc p(g,@h,i); var j,k,l; begin end; begin end.");
        due(6, "proc a;begin end;proc b;begin end;proc c;begin end;proc d;begin end;proc e;begin end;proc f;begin end;"
            + "begin end.");
        due(3, "proc a;proc b;proc c;begin end;begin end;begin end;begin end.");
        due(4, "proc p(a,b,c); begin end; begin p(1,2,3) end.");
        due(0, "begin write(((((((((1))))))))+((((((((2))))))))) end.");
        due(0, "begin " + "begin ".repeat(8) + "end ".repeat(8) + "end.");
        due(0, "begin " + "if 1=1 then ".repeat(8) + "write(1) end.");
        due(0, "begin " + "while 1=0 do ".repeat(8) + "write(1); while 1=0 do if 1=1 then begin end end.");
        due(0, "begin " + ";".repeat(147) + "end.");
        due(0, "begin" + " ".repeat(291) + "end.");
    }

    private static void aFaultLeavesTheProgram() {
        PascalMachine machine = Check.holding("begin write(1) end");
        Check.isThrown("compile with a fault", IllegalArgumentException.class, () -> machine.compile());
        Check.isThrown("run without a program", NoSuchElementException.class, () -> machine.run());
        Check.put(machine, ".");
        Check.answers("compile without", 0, () -> machine.compile());
        Check.answers("run", 1, () -> machine.run());
        for (String text : new String[] {"", "begin write(2) end", "var a; begin a:=5; write(3); write(a); b end."}) {
            Check.replace(machine, text);
            Check.isThrown("compile of " + text, IllegalArgumentException.class, () -> machine.compile());
            Check.answers("run after " + text, 1, () -> machine.run());
            Check.answers("output after " + text, 1, () -> machine.output(0));
        }
    }

    private static void aNewProgramTakesItsPlace() {
        PascalMachine machine = Check.compiled("begin write(1) end.");
        Check.replace(machine, "begin write(2); write(3) end.");
        Check.answers("run of the old one", 1, () -> machine.run());
        Check.answers("output of the old one", 1, () -> machine.output(0));
        machine.compile();
        Check.answers("run of the new one", 2, () -> machine.run());
        Check.answers("output of the new one", 2, () -> machine.output(0));
    }

    private static void oneObjectCompilesAgainAndAgain() {
        PascalMachine machine = Check.holding(
            "var a,b,c; proc p(x,@y); var d; begin d:=x; y:=y+d; if x>0 then p(x-1,y) end; begin a:=1; p(4,c); write(c) end.");
        for (int i = 0; i < 40; i++) {
            Check.answers("compile " + i, 7, () -> machine.compile());
            Check.answers("run " + i, 1, () -> machine.run());
            Check.answers("output " + i, 10, () -> machine.output(0));
            machine.cut(1);
            Check.isThrown("compile of less " + i, IllegalArgumentException.class, () -> machine.compile());
            machine.append('.', 1);
        }
    }

    private static void nothingStaysOfAnEarlierText() {
        String references = "var a; proc p(@x,@y,@z); begin end; begin p(a,a,a) end.";
        String faulty = "var a; proc p(@b); proc q(@c); proc r(@d); begin ? end; begin end; begin end; begin end.";
        String sound = "proc p(n);proc q(m);proc r(k);begin write(n+10*m+100*k) end;begin r(m+1) end;begin q(n+1) end;"
            + "begin p(1+0) end.";
        PascalMachine machine = Check.compiled(references);
        Check.answers("compiled twice", 5, () -> machine.compile());
        for (int i = 0; i < 3; i++) {
            Check.replace(machine, faulty);
            Check.isThrown("compile of " + faulty, IllegalArgumentException.class, () -> machine.compile());
            Check.replace(machine, sound);
            Check.answers("compile of " + sound, 6, () -> machine.compile());
            Check.answers("run of " + sound, 1, () -> machine.run());
            Check.answers("output of " + sound, 321, () -> machine.output(0));
        }
        for (String text : new String[] {"begin a:=1 end.", "begin p(1) end.", "begin n:=1 end."}) {
            Check.replace(machine, text);
            Check.isThrown("compile of " + text, IllegalArgumentException.class, () -> machine.compile());
            Check.answers("fault of " + text, 6, () -> machine.fault());
        }
    }
}
