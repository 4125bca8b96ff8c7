/** The terms' limits: how many names, and how deep the blocks, the brackets and the statements. */
public final class LimitTest {
    private static final String VARIABLES = "a,b,c,d,e,f,g,h,i,j,k,l";
    private static final String[] NESTING = {"begin ", "if 1=1 then ", "if 1=1 then else ", "while 1=0 do "};

    public static void main(String[] args) {
        atMost12Variables();
        parametersAreAmongThe12();
        atMost6Procedures();
        namesOfBothKindsAreCountedApart();
        atMost3Parameters();
        blocksAtMost4Deep();
        bracketsAtMost8Deep();
        bracketsAreCountedInEachExpression();
        statementsAtMost8Deep();
        statementsAreCountedInEachBlock();
        Check.end();
    }

    private static void atMost12Variables() {
        Due.sound(11, "var a,b,c,d,e,f,g,h,i,j,k; begin end.");
        Due.sound(12, "var " + VARIABLES + "; begin end.");
        Due.fault("var " + VARIABLES + ",^m; begin end.");
        Due.fault("var " + VARIABLES + ",^m,n; begin end.");
        for (int at = 1; at < VARIABLES.length(); at += 2) {
            String outer = "var " + VARIABLES.substring(0, at) + "; ";
            String inner = "var " + VARIABLES.substring(at + 1);
            Due.sound(13, outer + "proc p; " + inner + "; begin end; begin end.");
            Due.fault(outer + "proc p; " + inner + ",^m; begin end; begin end.");
            Due.fault(outer + "proc p; " + inner + "; begin end; proc q; var ^m; begin end; begin end.");
            Due.fault(outer + "proc p; " + inner + "; begin end; proc q(^m); begin end; begin end.");
        }
        // The names of a block that has ended are counted still, though they may be declared again.
        Due.sound(14, "proc p; var a,b,c,d,e,f; begin end; proc q; var a,b,c,d,e,f; begin end; begin end.");
        Due.fault("proc p; var a,b,c,d,e,f; begin end; proc q; var a,b,c,d,e,f,^g; begin end; begin end.");
    }

    private static void parametersAreAmongThe12() {
        String procedures = "proc p(a,b,c);begin end;proc q(@a,@b,@c);begin end;proc r(a,@b,c);begin end;";
        Due.sound(16, procedures + "proc s(a,b,c);begin end;begin end.");
        Due.sound(16, procedures + "proc s(a,b,@c);begin end;begin end.");
        Due.fault(procedures + "proc s(a,b,c);var ^d;begin end;begin end.");
        Due.fault(procedures + "proc s(a,b,c);begin end;proc t(^a);begin end;begin end.");
        Due.fault(procedures + "proc s(a,b,c);begin end;proc t(@^a);begin end;begin end.");
        Due.fault("var a,b,c;" + procedures + "proc s(^d,e);begin end;begin end.");
        Due.sound(13, "var a,b,c,d,e,f,g,h,i; proc p(j,@k,l); begin end; begin end.");
        Due.fault("var a,b,c,d,e,f,g,h,i,j; proc p(k,@l,^m); begin end; begin end.");
        Due.fault("var a,b,c,d,e,f,g,h,i,j; proc p(k,l,@^m); begin end; begin end.");
    }

    private static void atMost6Procedures() {
        StringBuilder procedures = new StringBuilder();
        for (int number = 1; number <= 6; number++) {
            procedures.append("proc p").append(number).append(";begin end;");
            Due.sound(number, procedures + "begin end.");
        }
        Due.fault(procedures + "proc ^p7;begin end;begin end.");
        Due.fault(procedures + "proc ^q");
        Due.fault(procedures + "proc ^p1;begin end;begin end.");
        String three = "proc a;proc b;proc c;begin end;begin end;begin end;";
        Due.sound(6, three + three.replace("proc a", "proc d") + "begin end.");
        Due.fault(three + three.replace("proc a", "proc d") + "proc ^e;begin end;begin end.");
        Due.fault(three + "proc d;proc b;begin end;proc c;begin end;proc ^e;begin end;begin end;begin end.");
        Due.fault(three + "proc d;begin end;proc e;begin end;proc f;proc ^g;begin end;begin end;begin end.");
    }

    private static void namesOfBothKindsAreCountedApart() {
        String procedures = "proc m;begin end;proc n;begin end;proc o;begin end;proc p;begin end;proc q;begin end;";
        Due.sound(17, "var " + VARIABLES + ";" + procedures + "begin end.");
        Due.sound(18, "var " + VARIABLES + ";" + procedures + "proc r;begin end;begin end.");
        Due.sound(18, "var a,b,c,d,e,f,g,h,i;" + procedures + "proc r(j,k,l);begin end;begin end.");
        Due.fault("var " + VARIABLES + ";" + procedures + "proc r;begin end;proc ^s;begin end;begin end.");
        Due.fault("var " + VARIABLES + ";" + procedures + "proc r(^s);begin end;begin end.");
    }

    private static void atMost3Parameters() {
        Due.sound(1, "proc p; begin end; begin p end.");
        Due.sound(2, "proc p(a); begin end; begin p(1) end.");
        Due.sound(3, "proc p(a,b); begin end; begin p(1,2) end.");
        Due.sound(4, "proc p(a,b,c); begin end; begin p(1,2,3) end.");
        Due.sound(4, "proc p(@a,@b,@c); begin end; begin end.");
        Due.sound(8, "proc p(a,b,c); begin end; proc q(a,b,c); begin end; begin end.");
        Due.sound(8, "proc p(a,b,c); proc q(a,b,c); begin end; begin end; begin end.");
        Due.fault("proc p(a,b,c,^d); begin end; begin end.");
        Due.fault("proc p(a,b,c,@^d); begin end; begin end.");
        Due.fault("proc p(@a,@b,@c,^d); begin end; begin end.");
        Due.fault("proc p(@a,@b,@c,@^d); begin end; begin end.");
        Due.fault("proc p(a,b,c,^d,e); begin end; begin end.");
        Due.fault("proc p(a,b,c,^1); begin end; begin end.");
        Due.fault("proc p; proc q(a,b,c,^d); begin end; begin end; begin end.");
        Due.fault("proc p(a,b,c); begin end; begin ^p(1,2,3,4) end.");
    }

    private static void blocksAtMost4Deep() {
        Due.sound(2, "proc a;proc b;begin end;begin end;begin end.");
        Due.sound(3, "proc a;proc b;proc c;begin end;begin end;begin end;begin end.");
        Due.sound(4, "proc a;proc b;proc c;begin end;proc d;begin end;begin end;begin end;begin end.");
        Due.sound(5, "proc a;proc b;proc c;begin end;begin end;proc d;proc e;begin end;begin end;begin end;begin end.");
        Due.fault("proc a;proc b;proc c;^proc d;begin end;begin end;begin end;begin end;begin end.");
        Due.fault("proc a;proc b;proc c;var x;^proc d;begin end;begin end;begin end;begin end;begin end.");
        Due.fault("proc a;proc b;proc c(x);^proc d;begin end;begin end;begin end;begin end;begin end.");
        Due.fault("proc a;proc b;proc c;^proc");
        Due.fault("proc a;proc b;proc c;begin end;proc d;^proc e;begin end;begin end;begin end;begin end;begin end.");
        Due.fault("proc a;proc b;begin end;proc c;proc d;^proc e;");
        // Were it not too deep at its proc, it would be the seventh at its name.
        Due.fault("proc a;begin end;proc b;begin end;proc c;begin end;proc d;proc e;proc f;^proc g;");
    }

    private static void bracketsAtMost8Deep() {
        for (String place : new String[] {"a:=_", "write(_)", "p(_)", "if _=1 then", "if 1<_ then", "while _>1 do",
            "while 2=_ do", "a:=1+_*a", "a:=-_/2", "q(1,_)", "q(_,a)"}) {
            String text = "var a; proc p(x); begin end; proc q(x,y); begin end; begin " + place + " end.";
            for (int depth = 1; depth <= 8; depth++) {
                Due.sound(6, text.replace("_", "(".repeat(depth) + "1" + ")".repeat(depth)));
            }
            Due.fault(text.replace("_", "(".repeat(8) + "^(1" + ")".repeat(9)));
            Due.fault(text.replace("_", "(".repeat(8) + "1+^(1" + ")".repeat(9)));
            Due.fault(text.replace("_", "(".repeat(8) + "^((1" + ")".repeat(10)));
        }
        Due.fault("begin write(((((((((^(");
        Due.fault("var a; proc p(@x); begin end; begin p(((((((((^(a))))))))) end.");
    }

    private static void bracketsAreCountedInEachExpression() {
        String deep = "(".repeat(8) + "2" + ")".repeat(8);
        Due.values("begin write(" + deep + "+" + deep + "*" + deep + ") end.", 6);
        Due.values("begin write(" + deep + "); write(" + deep + "); if " + deep + "=" + deep + " then write(3) end.", 2, 2, 3);
        Due.values("proc p(x,y); begin write(x-y) end; begin p(" + deep + "," + deep + ") end.", 0);
        Due.values("begin write((1)*(2)*(3)*(4)*(5)*(6)*(7)*(8)*(9)*(10)) end.", 3628800);
        Due.fault("begin write(" + deep + "+" + "(".repeat(8) + "^(2" + ")".repeat(9) + ") end.");
        Due.fault("begin write((1+((1)+(((((1+(1)+(1+^(2)))))))))) end.");
    }

    private static void statementsAtMost8Deep() {
        for (String outer : NESTING) {
            for (String inner : NESTING) {
                for (int depth = 0; depth < 8; depth++) {
                    Due.sound(0, nested(outer, depth, inner));
                }
                Due.faultAt(6 + 8 * outer.length(), nested(outer, 8, inner));
                Due.faultAt(6 + 4 * outer.length() + 4 * inner.length(),
                    "begin " + outer.repeat(4) + inner.repeat(4) + outer + ends(outer, 5) + ends(inner, 4) + "end.");
            }
            Due.sound(0, "begin " + outer.repeat(8) + "write(1) " + ends(outer, 8) + "end.");
        }
        Due.fault("begin " + "begin ".repeat(8) + "^begin");
        Due.fault("begin " + "begin ".repeat(8) + ";;write(1);^if");
        Due.fault("begin " + "begin ".repeat(7) + "begin end; begin ^while");
    }

    private static String nested(String outer, int depth, String inner) {
        return "begin " + outer.repeat(depth) + inner + ends(inner, 1) + ends(outer, depth) + "end.";
    }

    private static String ends(String word, int number) {
        return word.equals("begin ") ? "end ".repeat(number) : "";
    }

    private static void statementsAreCountedInEachBlock() {
        String deep = "begin ".repeat(8) + "end ".repeat(8);
        Due.sound(0, "begin " + deep + ";" + deep + "end.");
        Due.sound(1, "proc p; begin " + deep + "end; begin " + deep + "end.");
        Due.sound(3, "proc p;proc q;proc r;begin " + deep + "end;begin end;begin " + deep + "end;begin end.");
        Due.fault("proc p; begin " + "begin ".repeat(8) + "^begin " + "end ".repeat(9) + "end; begin end.");
        Due.sound(0, "begin " + "while 1=0 do ".repeat(8) + "; while 1=0 do if 1=1 then begin end end.");
        Due.sound(0, "begin " + "begin end;".repeat(20) + "end.");
        Due.sound(0, "begin " + "if 1=1 then;".repeat(20) + "end.");
        // An if that has ended is not around what follows; an else is within its if.
        Due.sound(0, "begin " + "if 1=1 then begin end else ".repeat(7) + "if 1=1 then end.");
        Due.fault("begin " + "if 1=1 then else ".repeat(8) + "^if 1=1 then end.");
        Due.sound(0, "begin " + "if 1=1 then ".repeat(7) + "begin end else while 1=0 do end.");
        Due.fault("begin " + "if 1=1 then ".repeat(8) + "else ^while 1=0 do end.");
    }
}
