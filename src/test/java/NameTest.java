/** The terms' names: where they are known, and what they stand for. */
public final class NameTest {
    public static void main(String[] args) {
        aNameIsDeclaredOnceInABlock();
        parametersBelongToTheProceduresBlock();
        aNameMayBeDeclaredAgainInAnotherBlock();
        aNameIsKnownFromItsDeclarationOn();
        aNameIsKnownToTheEndOfItsBlock();
        aProcedureIsKnownInItsOwnBlock();
        aNameStandsForTheInnermost();
        aNameStandsForWhatIsDeclaredByThen();
        aNameMustBeDeclared();
        aFactorIsNoProcedure();
        Check.end();
    }

    private static void aNameIsDeclaredOnceInABlock() {
        Due.fault("var a,^a; begin end.");
        Due.fault("var a,b,c,^a; begin end.");
        Due.fault("var p; proc ^p; begin end; begin end.");
        Due.fault("proc p; begin end; proc ^p; begin end; begin end.");
        Due.fault("proc p; begin end; proc q; begin end; proc ^p; begin end; begin end.");
        Due.fault("proc p; var a,^a; begin end; begin end.");
        Due.fault("proc p; proc q; begin end; proc ^q; begin end; begin end; begin end.");
        Due.fault("var a; proc p; begin end; proc ^a; begin end; begin end.");
        Due.fault("var a; proc p; var a; begin end; proc ^a; begin end; begin end.");
    }

    private static void parametersBelongToTheProceduresBlock() {
        Due.fault("proc p(x,^x); begin end; begin end.");
        Due.fault("proc p(x,@^x); begin end; begin end.");
        Due.fault("proc p(@x,^x); begin end; begin end.");
        Due.fault("proc p(x,y,^x); begin end; begin end.");
        Due.fault("proc p(x); var ^x; begin end; begin end.");
        Due.fault("proc p(@x); var a,^x; begin end; begin end.");
        Due.fault("proc p(x); proc ^x; begin end; begin end; begin end.");
        Due.fault("proc p(x); begin end; begin ^x:=1 end.");
        Due.fault("proc p(@x); begin end; begin write(^x) end.");
        Due.fault("proc p(x); begin end; proc q; begin write(^x) end; begin end.");
    }

    private static void aNameMayBeDeclaredAgainInAnotherBlock() {
        Due.sound(3, "var a; proc p(a); begin a:=1 end; begin p(a) end.");
        Due.sound(3, "var a; proc p; var a; begin a:=1 end; begin a:=1; p end.");
        Due.sound(2, "proc p(p); begin p:=1 end; begin p(1) end.");
        Due.sound(2, "proc p; var p; begin p:=1 end; begin p end.");
        Due.sound(2, "proc p; proc p; begin p end; begin p end; begin p end.");
        Due.sound(3, "var a; proc p; proc a; begin end; begin a end; begin a:=1; p end.");
        Due.sound(4, "proc p(a); begin end; proc q(a); begin end; begin p(1); q(2) end.");
        Due.sound(4, "proc p; proc r; begin end; begin r end; proc q; proc r; begin end; begin r end; begin p; q end.");
        Due.sound(4, "proc p; var a; begin end; proc q; var a; begin end; begin p; q end.");
        Due.sound(7, "var a; proc p(a); var b; proc q; begin end; begin end; proc q; var p; begin end; begin end.");
    }

    private static void aNameIsKnownFromItsDeclarationOn() {
        Due.fault("proc p; begin ^q end; proc q; begin end; begin end.");
        Due.fault("proc p; begin write(^q) end; proc q; begin end; begin end.");
        Due.fault("proc p; proc q; begin ^r end; proc r; begin end; begin end; begin end.");
        Due.sound(2, "proc p; begin end; proc q; begin p end; begin end.");
        Due.sound(2, "var a; proc q; begin a:=a end; begin end.");
    }

    private static void aNameIsKnownToTheEndOfItsBlock() {
        Due.fault("proc p; var a; begin a:=1 end; begin ^a:=1 end.");
        Due.fault("proc p; var a; begin end; proc q; begin ^a:=1 end; begin end.");
        Due.fault("proc p; proc q; begin end; begin q end; begin ^q end.");
        Due.fault("proc p; proc q; begin end; begin end; proc r; begin ^q end; begin end.");
        Due.fault("proc p; proc q; var a; begin end; begin ^a:=1 end; begin end.");
        Due.sound(4, "var a; proc p; proc q; begin end; begin q; a:=1 end; proc r; begin p; a:=2 end; begin r; p end.");
    }

    private static void aProcedureIsKnownInItsOwnBlock() {
        Due.sound(1, "proc p; begin p end; begin end.");
        Due.sound(2, "proc p; proc q; begin p; q end; begin q; p end; begin p end.");
        Due.sound(2, "proc p(x); begin p(x) end; begin p(1) end.");
        Due.fault("proc p(p); begin ^p(1) end; begin end.");
        Due.fault("proc p; var p; begin ^p end; begin end.");
        Due.fault("proc p(x); begin ^p end; begin end.");
    }

    private static void aNameStandsForTheInnermost() {
        Due.values("var a;proc p;var a;proc q;var a;proc r;var a;begin a:=4;write(a)end;begin a:=3;r;write(a)end;"
            + "begin a:=2;q;write(a)end;begin a:=1;p;write(a)end.", 4, 3, 2, 1);
        Due.values("var a;proc p;proc q;proc r;begin a:=a+1 end;begin r end;begin q end;begin a:=5;p;write(a)end.", 6);
        Due.values("var a; proc p(a); begin a:=a+1; write(a) end; begin a:=1; p(7); write(a) end.", 8, 1);
        Due.values("proc p; begin write(1) end; proc q; proc p; begin write(2) end; begin p end; begin q; p end.", 2, 1);
        Due.fault("var a; proc p; proc a; begin end; begin ^a:=1 end; begin end.");
        Due.fault("proc a; begin end; proc p(a); begin ^a end; begin end.");
        Due.fault("proc a; begin end; proc p; var a; begin ^a end; begin end.");
        // Behind the inner block the name stands for the outer one again.
        Due.values("proc p; begin write(1) end; proc q; var p; begin p:=2 end; begin q; p end.", 1);
        Due.values("var a; proc p; proc a; begin write(2) end; begin a end; begin a:=3; p; write(a) end.", 2, 3);
    }

    private static void aNameStandsForWhatIsDeclaredByThen() {
        Due.values("proc r; begin write(1) end; proc p; proc q; begin r end; proc r; begin write(2) end; begin q; r end;"
            + "begin p end.", 1, 2);
        Due.values("var r; proc p; proc q; begin r:=7 end; proc r; begin write(8) end; begin q; r end; begin p; write(r) end.",
            8, 7);
        Due.values("proc p; proc q; begin write(1) end; proc p; begin q end; begin p end; begin p end.", 1);
        Due.sound(5, "proc r(x); begin end; proc p; proc q; begin r(1) end; proc r; begin end; begin r end; begin r(2) end.");
        Due.fault("proc r(x); begin end; proc p; proc q; begin ^r end; proc r; begin end; begin r end; begin end.");
    }

    private static void aNameMustBeDeclared() {
        for (String behind : new String[] {":=1 end.", " end.", "(1) end.", "; end.", "", " ?", " abcdefg", ":", " x"}) {
            Due.fault("begin ^x" + behind);
            Due.fault("var y; proc p(z); begin ^x" + behind);
        }
        Due.fault("begin write(^x) end.");
        Due.fault("begin write(1+^x+y) end.");
        Due.fault("begin write((^x");
        Due.fault("begin if ^x=1 then end.");
        Due.fault("begin while 1=^x do end.");
        Due.fault("var a; begin a:=^b end.");
        Due.fault("proc p(x); begin end; begin p(^y) end.");
        Due.fault("proc p(@x); begin end; begin p(^y) end.");
    }

    private static void aFactorIsNoProcedure() {
        Due.fault("proc p; begin end; begin write(^p) end.");
        Due.fault("proc p; begin end; begin write(1+2*^p) end.");
        Due.fault("proc p; begin end; begin if ^p=1 then end.");
        Due.fault("proc p(x); begin end; begin p(^p) end.");
        Due.fault("proc p(x); begin end; begin p(^p(1)) end.");
        Due.fault("proc p(@x); begin end; begin p(^p) end.");
        Due.fault("var a; proc p; begin a:=^p end; begin end.");
        Due.fault("var p; proc q; proc p; begin end; begin write(^p) end; begin end.");
        Due.sound(2, "proc p; var p; begin write(p) end; begin p end.");
    }
}
