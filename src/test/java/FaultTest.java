/** Promise 5: fault. In a text here, ^ stands where the fault is due, and is taken out. */
public final class FaultTest {
    private static final String[] TOKENS = {
        "begin ^abcdefg:=1 end.",
        "var ^abcdefg; begin end.",
        "var ^a123456; begin end.",
        "begin write(^1234567890) end.",
        "begin write(^0000000001) end.",
        "^Begin end.",
        "begin write(1^:2) end.",
        "begin write(1^?) end.",
        "begin^:",
        "begin ^_ end.",
        "var ^A; begin end.",
        "var a^[; begin end.",
        "begin end.^#",
        "begin end. ^abcdefg",
        "^beginend end.",
    };

    private static final String[] GRAMMAR = {
        "^end.",
        "^; begin end.",
        "var ^; begin end.",
        "var ^begin end.",
        "var ^1; begin end.",
        "var a ^b; begin end.",
        "var a,^; begin end.",
        "var a ^begin end.",
        "var a; ^var b; begin end.",
        "proc p; begin end; ^var b; begin end.",
        "proc ^; begin end; begin end.",
        "proc ^begin",
        "proc p ^begin end; begin end.",
        "proc p(^); begin end; begin end.",
        "proc p(x^; begin end; begin end.",
        "proc p(x,^); begin end; begin end.",
        "proc p(@^@x); begin end; begin end.",
        "proc p(@^); begin end; begin end.",
        "proc p; begin end ^begin end.",
        "proc p; begin end^. begin end.",
        "proc p; ^; begin end.",
        "begin end ^; .",
        "begin end.^.",
        "begin end. ^begin",
        "begin ^1 end.",
        "begin ^( end.",
        "begin ^else end.",
        "begin ^:= end.",
        "begin ^var a; end.",
        "begin ^proc p; begin end; end.",
        "begin write ^1 end.",
        "begin write(^) end.",
        "begin write(1^; end.",
        "begin write(1^,2) end.",
        "begin write(-^-1) end.",
        "begin write(1+^-1) end.",
        "begin write(^+1) end.",
        "begin write(1*^) end.",
        "begin write(1 ^=1) end.",
        "begin write((1^; end.",
        "begin write((^)) end.",
        "begin write(1) ^write(2) end.",
        "begin if 1 ^then end.",
        "begin if 1^:=1 then end.",
        "begin if 1=1 ^do end.",
        "begin if 1=1^=1 then end.",
        "begin if ^then end.",
        "begin if 1<^then end.",
        "begin if 1=1 then; ^else end.",
        "begin if 1=1 then else ^else end.",
        "begin while 1=1 ^then end.",
        "begin while 1>2 do ^else end.",
        "begin begin end ^.",
        "begin end ^end.",
        "var a; begin a:= ^end.",
        "var a; begin a:=^; end.",
        "var a; begin a:=1 ^2 end.",
        "var a; begin a:=1 ^:=2 end.",
        "var a; begin a:=^@a end.",
        "proc p; begin end; begin p(^) end.",
        "proc p(x); begin end; begin p(1^; end.",
        "proc p(x); begin end; begin p(1,^) end.",
        "proc p(x); begin end; begin p(1) ^(2) end.",
    };

    private static final String[] NAMES = {
        "var a,^a; begin end.",
        "proc p(x,^x); begin end; begin end.",
        "proc p(x,@^x); begin end; begin end.",
        "proc p(x); var ^x; begin end; begin end.",
        "proc p(x); proc ^x; begin end; begin end; begin end.",
        "var p; proc ^p; begin end; begin end.",
        "proc p; begin end; proc ^p; begin end; begin end.",
        "begin ^x:=1 end.",
        "begin ^x end.",
        "begin ^x(1) end.",
        "begin ^x",
        "begin ^x ?",
        "begin write(^x) end.",
        "begin write(1+^x+y) end.",
        "var a; begin a:=^b end.",
        "proc p; var a; begin end; begin ^a:=1 end.",
        "proc p(a); begin end; begin ^a:=1 end.",
        "proc p; proc q; begin end; begin end; begin ^q end.",
        "proc p; begin ^q end; proc q; begin end; begin end.",
        "proc p; begin end; begin write(^p) end.",
        "proc p; begin end; begin if ^p=1 then end.",
        "proc p(x); begin end; begin p(^p) end.",
        "proc p; begin end; begin ^p:=1 end.",
        "proc p(x); begin end; begin ^p:=1 end.",
        "var a; begin ^a end.",
        "var a; begin ^a; end.",
        "var a; begin ^a(1) end.",
        "var a; begin ^a=1 end.",
        "var a; begin ^a",
        "var a; begin ^a  ",
        "var a; begin ^a ? end.",
        "var a; begin ^a : =1 end.",
        "var a; begin ^a abcdefg",
        "proc p(a); begin ^a end; begin end.",
        "proc p(@a); begin ^a end; begin end.",
        "proc p; var p; begin ^p end; begin end.",
        "var a; proc p; proc a; begin end; begin ^a:=1 end; begin end.",
    };

    private static final String[] ARGUMENTS = {
        "proc p(x); begin end; begin ^p end.",
        "proc p(x); begin end; begin ^p",
        "proc p(x); begin end; begin ^p ?",
        "proc p(x); begin end; begin ^p(1,2) end.",
        "proc p(x); begin end; begin ^p(1,2) ?",
        "proc p(x); begin end; begin p(1,2 ^? end.",
        "proc p(x); begin end; begin p(1,^y) end.",
        "proc p; begin end; begin ^p(1) end.",
        "proc p; begin end; begin p(1^",
        "proc p(x,y,z); begin end; begin ^p(1,2) end.",
        "proc p(x,y,z); begin end; begin ^p(1,2,3,4) end.",
        "proc p(x); begin ^p end; begin end.",
        "proc p(@x); begin end; begin p(^1) end.",
        "proc p(@x); begin end; begin p(^1",
        "proc p(@x); begin end; begin p(^1 2) end.",
        "proc p(@x); begin end; begin p(^-1) end.",
        "var a; proc p(@x); begin end; begin p(^a+1) end.",
        "var a; proc p(@x); begin end; begin p(^a*a) end.",
        "var a; proc p(@x); begin end; begin p(^(a)) end.",
        "var a; proc p(@x); begin end; begin p(^-a) end.",
        "var a; proc p(@x); begin end; begin p(a ^a) end.",
        "var a; proc p(@x); begin end; begin p(a+^b) end.",
        "var a; proc p(@x); begin end; begin p(^a+1,2) end.",
        "var a; proc p(@x); begin end; begin ^p(a,2) end.",
        "var a; proc p(@x); begin end; begin p(a^",
        "var a; proc p(@x); begin end; begin p(^b) end.",
        "var a; proc p(@x); begin end; begin p(^p) end.",
        "var a; proc p(x,@y); begin end; begin p(1,^2) end.",
        "var a; proc p(x,@y); begin end; begin p((a),^(a)) end.",
        "var a; proc p(x,y,@z); begin end; begin p(1,2,^a/1) end.",
        "var a; proc p(@x,y); begin end; begin ^p(a) end.",
    };

    private static final String[] LIMITS = {
        "var a,b,c,d,e,f,g,h,i,j,k,l,^m; begin end.",
        "var a,b,c,d,e,f,g,h,i,j,k; proc p(l,^m); begin end; begin end.",
        "var a,b,c,d,e,f,g,h,i,j,k; proc p(l); begin end; proc q; var ^m; begin end; begin end.",
        "proc a;begin end;proc b;begin end;proc c;begin end;proc d;begin end;proc e;begin end;proc f;begin end;"
            + "proc ^g;begin end;begin end.",
        "proc a;proc b;proc c;^proc d;begin end;begin end;begin end;begin end;begin end.",
        "proc a;proc b;proc c;begin end;proc d;^proc e;",
        "proc p(a,b,c,^d); begin end; begin end.",
        "proc p(a,b,c,@^d); begin end; begin end.",
        "proc p(a,b,c,^1); begin end; begin end.",
        "begin write(((((((((^(1)))))))))) end.",
        "begin write(1+((((((((1+^(1)))))))))) end.",
        "begin " + "begin ".repeat(8) + "^begin " + "end ".repeat(9) + "end.",
        "begin " + "begin ".repeat(8) + "^if 1=1 then " + "end ".repeat(8) + "end.",
        "begin " + "begin ".repeat(8) + "^while 1=0 do " + "end ".repeat(8) + "end.",
        "begin " + "if 1=1 then ".repeat(8) + "^if 1=1 then end.",
        "begin " + "if 1=1 then else ".repeat(8) + "^begin end end.",
        "begin " + "while 1=0 do ".repeat(8) + "^while 1=0 do end.",
        "begin " + ";".repeat(148) + "end^.",
        "begin " + ";".repeat(149) + "^end.",
        "begin " + ";".repeat(149) + "^?",
        "begin " + ";".repeat(149) + "^",
        "^" + ";".repeat(200),
    };

    private static final String[] LACKING = {
        "^",
        "^   ",
        "begin^",
        "begin^   ",
        "begin end^",
        "begin end^  ",
        "  begin  end^  ",
        "var^",
        "var a^ ",
        "var a;^",
        "proc p(@^ ",
        "proc p; begin end^",
        "begin write^",
        "begin write(1^ ",
        "begin if 1=1^",
        "begin if 1=1 then^",
        "var a; begin a:=^ ",
    };

    public static void main(String[] args) {
        for (String[] texts : new String[][] {TOKENS, GRAMMAR, NAMES, ARGUMENTS, LIMITS, LACKING}) {
            for (String text : texts) {
                due(text);
            }
        }
        isOfTheLastCompile();
        Check.end();
    }

    private static void due(String marked) {
        String text = marked.replace("^", "");
        PascalMachine machine = Check.holding(text);
        Check.isThrown(marked, IllegalArgumentException.class, () -> machine.compile());
        Check.equal("fault of " + marked, machine.fault(), marked.indexOf('^'));
    }

    private static void isOfTheLastCompile() {
        PascalMachine machine = Check.holding("begin write(x) end.");
        Check.answers("before the first compile", -1, () -> machine.fault());
        Check.isThrown("compile", IllegalArgumentException.class, () -> machine.compile());
        Check.answers("after a fault", 12, () -> machine.fault());
        Check.answers("asked again", 12, () -> machine.fault());
        Check.replace(machine, "begin end.");
        Check.answers("with another text", 12, () -> machine.fault());
        machine.compile();
        Check.answers("after none", -1, () -> machine.fault());
        machine.cut(1);
        Check.isThrown("compile of less", IllegalArgumentException.class, () -> machine.compile());
        Check.answers("after another", 9, () -> machine.fault());
        machine.run();
        Check.answers("after a run", 9, () -> machine.fault());
    }
}
