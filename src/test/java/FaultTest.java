/** Promise 5: fault. In a text here, ^ stands where it is due. */
public final class FaultTest {
    /** The fault is a token that lacks: it is behind the last one, and not behind the blanks. */
    private static final String[] LACKING = {
        "^",
        "begin^",
        "begin^ ",
        "  begin  end^  ",
        "begin write(1^  ",
        "begin if 1=1 then^    ",
        "var a; begin a:=^ ",
        "var abcdef^ ",
        "begin write(123456789^  ",
        "proc p; begin end^",
    };

    /** Of two faults, it is the one that is come to first. */
    private static final String[] FIRST_OF_TWO = {
        "begin ^1 ? end.",
        "begin ^x abcdefg",
        "begin ^x:=y end.",
        "begin write(^x+1234567890) end.",
        "var a,^a,A; begin end.",
        "^end ?",
        "begin end ^; ?",
        "begin ^) " + ";".repeat(200),
        "begin write(^x" + ")".repeat(200),
        "proc p(x); begin end; begin ^p(1,2) x end.",
        "proc p(x); begin end; begin ^p(1,2):=1 end.",
        "proc p(x); begin end; begin p(1,^y) end.",
        "proc p(x); begin end; begin p(1,2 ^? end.",
        "proc p(x); begin end; begin p(1,2,^) end.",
        "var a; proc p(@x); begin end; begin p(^a+1,?) end.",
        "var a; proc p(@x); begin end; begin p(^a+1,2) end.",
        "var a; proc p(@x); begin end; begin p(a+^b) end.",
        "var a; proc p(@x,y); begin end; begin p(^1) end.",
        "var a; proc p(x,@y); begin end; begin p(^b,1) end.",
    };

    public static void main(String[] args) {
        for (String[] texts : new String[][] {LACKING, FIRST_OF_TWO}) {
            for (String text : texts) {
                Due.fault(text);
            }
        }
        aVariableBeginsAnAssignmentAlone();
        aProcedureBeginsACallAlone();
        aCallHasAsManyArgumentsAsParameters();
        anArgumentByReferenceIsJustAName();
        placesAreFrom0To300();
        isOfTheLastCompile();
        isLeftAloneByOtherCalls();
        Check.end();
    }

    private static void aVariableBeginsAnAssignmentAlone() {
        String[] texts = {
            "var a; proc p; begin end; begin ^a ",
            "var a; proc p; begin end; begin if 1=1 then ^a ",
            "proc p(a); begin ^a ",
            "proc p(@a); begin ^a ",
            "proc p(@a); proc q; begin ^a ",
        };
        for (String text : texts) {
            for (String behind : Due.TOKENS) {
                if (!behind.equals(":=")) {
                    Due.fault(text + behind);
                    Due.fault(text + behind + " 1 end.");
                }
            }
            for (String behind : Due.NO_TOKENS) {
                Due.fault(text + behind);
            }
            Due.fault(text);
            Due.fault(text.trim());
            Due.fault(text.replace("^", "") + ":= ^end");
        }
    }

    private static void aProcedureBeginsACallAlone() {
        String text = "var a; proc p; begin end; begin p ";
        for (String behind : Due.TOKENS) {
            if (behind.equals(":=")) {
                Due.fault("var a; proc p; begin end; begin ^p :=");
                Due.fault("var a; proc p(x); begin end; begin ^p := 1 end.");
                Due.fault("var a; proc p; begin ^p := 1 end; begin end.");
            } else if (behind.equals("(") || behind.equals(";") || behind.equals("end")) {
                Due.fault(text + behind + " ^) end.");
            } else {
                Due.fault(text + "^" + behind + " end.");
            }
        }
        Due.fault(text + "^?");
        Due.fault("var a; proc p; begin end; begin p^  ");
        Due.sound(1, "proc p; begin end; begin if 1=1 then p else p end.");
    }

    private static void aCallHasAsManyArgumentsAsParameters() {
        String[] parameters = {"", "(x)", "(x,y)", "(x,y,z)"};
        String[] arguments = {"", "(1)", "(1,2)", "(1,2,3)", "(1,2,3,4)", "(1,2,3,4,5)"};
        for (int known = 0; known < parameters.length; known++) {
            for (int given = 0; given < arguments.length; given++) {
                String outside = "proc p" + parameters[known] + "; begin end; begin ^p" + arguments[given] + " end.";
                String inside = "proc p" + parameters[known] + "; begin ^p" + arguments[given] + " end; begin end.";
                if (known == given) {
                    Due.sound(known + 1, outside.replace("^", ""));
                    Due.sound(known + 1, inside.replace("^", ""));
                } else {
                    Due.fault(outside);
                    Due.fault(inside);
                    Due.fault(outside.replace(" end.", ""));
                    if (given > 0) {
                        Due.fault(outside.replace(" end.", " ?"));
                        Due.fault(outside.replace(" end.", " 1"));
                    }
                }
            }
        }
        Due.fault("proc p; begin end; begin p(^) end.");
        Due.fault("proc p(@x); begin end; begin ^p end.");
        Due.fault("var a; proc p(@x); begin end; begin ^p(a,2) end.");
        Due.fault("var a; proc p(@x,y); begin end; begin ^p(a) end.");
        Due.fault("var a; proc p(@x,@y,@z); begin end; begin ^p(a,a,a,1) end.");
        Due.fault("proc p(x); begin end; proc q(x,y); begin end; begin q(1,2); ^p(1,2) end.");
    }

    private static void anArgumentByReferenceIsJustAName() {
        String[] parameters = {"(@x,y,z)", "(x,@y,z)", "(x,y,@z)"};
        String[] calls = {"p(_,a,a)", "p(a,_,a)", "p(a,a,_)"};
        String[] wrong = {"1", "-a", "-1", "(a)", "((a))", "(1)", "a+1", "a-a", "a*1", "a/a", "a%2", "1+a", "(a)+1", "a+(1)"};
        for (int at = 0; at < calls.length; at++) {
            for (int by = 0; by < parameters.length; by++) {
                String text = "var a; proc p" + parameters[by] + "; begin end; begin " + calls[at] + " end.";
                Due.sound(5, text.replace("_", "a"));
                for (String argument : wrong) {
                    if (at == by) {
                        Due.fault(text.replace("_", "^" + argument));
                        Due.fault(text.replaceAll("_.*", "^" + argument));
                    } else {
                        Due.sound(5, text.replace("_", argument));
                    }
                }
            }
        }
        Due.fault("var a; proc p(@x); begin end; begin p(a ^a) end.");
        Due.fault("var a; proc p(@x); begin end; begin p(^1 2) end.");
        Due.fault("proc p(@x); begin end; begin p(^p) end.");
        Due.sound(5, "var a; proc p(@x); proc q(y); begin p(a); p(x); p(y) end; begin q(1) end; begin p(a) end.");
    }

    private static void placesAreFrom0To300() {
        Due.faultAt(0, "?");
        Due.faultAt(0, "?" + " ".repeat(299));
        Due.faultAt(299, "begin end." + " ".repeat(289) + "x");
        Due.faultAt(299, " ".repeat(299) + "?");
        Due.faultAt(300, " ".repeat(295) + "begin");
        Due.faultAt(300, " ".repeat(291) + "begin end");
        Due.faultAt(299, " ".repeat(290) + "begin end ");
        Due.faultAt(293, " ".repeat(293) + "abcdefg");
        Due.faultAt(290, " ".repeat(290) + "1234567890");
        Due.sound(0, " ".repeat(290) + "begin end.");
    }

    private static void isOfTheLastCompile() {
        PascalMachine machine = Check.holding("begin write(x) end.");
        Check.answers("before the first compile", -1, () -> machine.fault());
        Check.isThrown("compile", IllegalArgumentException.class, () -> machine.compile());
        Check.answers("after a fault", 12, () -> machine.fault());
        Check.answers("asked again", 12, () -> machine.fault());
        Check.isThrown("compile again", IllegalArgumentException.class, () -> machine.compile());
        Check.answers("after the same fault", 12, () -> machine.fault());
        Check.replace(machine, "begin end.");
        Check.answers("with another text", 12, () -> machine.fault());
        Check.answers("compile of another text", 0, () -> machine.compile());
        Check.answers("after none", -1, () -> machine.fault());
        machine.cut(1);
        Check.answers("with less text", -1, () -> machine.fault());
        Check.isThrown("compile of less", IllegalArgumentException.class, () -> machine.compile());
        Check.answers("after another", 9, () -> machine.fault());
        machine.append('.', 1);
        Check.answers("compile of more", 0, () -> machine.compile());
        Check.answers("after none again", -1, () -> machine.fault());
    }

    private static void isLeftAloneByOtherCalls() {
        PascalMachine machine = Check.compiled("begin write(1); write(1/0) end.");
        Check.isThrown("failing run", ArithmeticException.class, () -> machine.run());
        Check.answers("after a failing run", -1, () -> machine.fault());
        machine.cut(1);
        Check.isThrown("compile of less", IllegalArgumentException.class, () -> machine.compile());
        Check.answers("after the fault", 30, () -> machine.fault());
        Check.isThrown("failing run again", ArithmeticException.class, () -> machine.run());
        Check.answers("after a failing run again", 30, () -> machine.fault());
        machine.output(0);
        machine.count(2);
        machine.append('?', 1);
        Check.answers("after the other calls", 30, () -> machine.fault());
    }
}
