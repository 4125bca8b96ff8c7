/** The terms' run: variables of a call, of the blocks around it, and parameters by value and by reference. */
public final class CallTest {
    public static void main(String[] args) {
        variablesAre0WhenTheirBlockIsEntered();
        aCallMakesNewVariables();
        outerVariablesAreThoseOfTheDeclaringRun();
        outerVariablesOfEachDepth();
        aParameterByValueIsItsOwnVariable();
        aParameterByReferenceIsTheVeryVariable();
        aReferenceMayStandForAReference();
        referencesGoAcrossCallsAndBlocks();
        argumentsStandInTheirOrder();
        allTwelveVariablesAreApart();
        Check.end();
    }

    private static void variablesAre0WhenTheirBlockIsEntered() {
        Due.values("var a,b; begin write(a); write(b); a:=1; write(b) end.", 0, 0, 0);
        Due.values("proc p; var a; begin write(a); a:=7; write(a) end; begin p; p end.", 0, 7, 0, 7);
        Due.values("proc p(x); var a; begin write(a); a:=x; x:=9; write(a) end; begin p(3); p(4) end.", 0, 3, 0, 4);
        Due.values("proc p(x,y,z); begin x:=5; y:=6; z:=7 end; proc q; var a,b,c; begin write(a); write(b); write(c) end;"
            + "begin p(1,2,3); q end.", 0, 0, 0);
        PascalMachine machine = Check.compiled("var a; begin a:=a+1; write(a) end.");
        for (int i = 0; i < 3; i++) {
            Check.answers("run " + i, 1, () -> machine.run());
            Due.output(machine, "run " + i, 1);
        }
    }

    private static void aCallMakesNewVariables() {
        Due.values("proc p(n); var a; begin a:=n; if n>0 then p(n-1); write(a) end; begin p(3) end.", 0, 1, 2, 3);
        Due.values("proc p(n); var a; begin write(a); a:=n; if n>0 then p(n-1); write(n) end; begin p(2) end.",
            0, 0, 0, 0, 1, 2);
        Due.values("proc p(n); var a; begin a:=n; if n<10 then p(n+1); if n<4 then write(a) end; begin p(1) end.", 3, 2, 1);
    }

    private static void outerVariablesAreThoseOfTheDeclaringRun() {
        Due.values("var a; proc p; begin a:=a+1 end; begin p; p; write(a) end.", 2);
        Due.values("var x; proc p; begin write(x) end; proc q; var x; begin x:=2; p end; begin x:=1; q end.", 1);
        Due.values("proc f(n); proc g; begin write(n) end; begin if n=0 then g else f(n-1); g end; begin f(2) end.", 0, 0, 1, 2);
        Due.values("proc a(n);var k;proc b(m);proc c;begin k:=k+m;write(k) end;begin if m>0 then b(m-1);c end;"
            + "begin k:=n;b(2) end;begin a(10) end.", 10, 11, 13);
        // The inner procedure was declared in the first run of f, whose variable it finds from within the second.
        Due.values("proc f(n,i);proc g;begin write(i) end;proc h;begin if n=1 then f(0,2) else g;g end;begin h end;"
            + "begin f(1,1) end.", 2, 2, 1);
        // A procedure that calls the one around it leaves the variables of the first run as they were.
        Due.values("proc f(n);var v;proc g;begin v:=v+n;if n<3 then f(n+1) end;begin v:=10*n;g;write(v) end;begin f(1) end.",
            33, 22, 11);
    }

    private static void outerVariablesOfEachDepth() {
        Due.values("var a;proc p;var b;proc q;var c;proc r;var d;begin d:=4;c:=c+d;b:=b+c;a:=a+b end;begin c:=3;r;write(c)end;"
            + "begin b:=2;q;write(b)end;begin a:=1;p;write(a)end.", 7, 9, 10);
        Due.values("var a;proc p(b);proc q(c);proc r(d);begin write(1000*a+100*b+10*c+d);if d>1 then r(d-1)end;"
            + "begin r(c+1);if c=3 then q(5)end;begin q(b+1)end;begin a:=1;p(2)end.",
            1234, 1233, 1232, 1231, 1256, 1255, 1254, 1253, 1252, 1251);
        Due.values("var a; proc a1; var a; proc b; var a; proc c; begin a:=3 end; begin c; write(a) end; begin b; write(a) end;"
            + "begin a1; write(a) end.", 3, 0, 0);
        Due.values("var a;proc z;begin a:=a+9 end;proc p;proc q;proc r;begin z end;begin r end;begin q end;begin p;write(a)end.",
            9);
    }

    private static void aParameterByValueIsItsOwnVariable() {
        Due.values("var a; proc p(x); begin x:=x+1; write(x) end; begin a:=1; p(a); write(a) end.", 2, 1);
        Due.values("var a; proc p(x); begin a:=5; write(x) end; begin a:=1; p(a); write(a) end.", 1, 5);
        Due.values("proc p(n); begin if n>0 then p(n-1); write(n) end; begin p(2) end.", 0, 1, 2);
        Due.values("var a; proc p(@x,y); begin x:=5; write(y); y:=6; write(x) end; begin a:=1; p(a,a); write(a) end.", 1, 5, 5);
    }

    private static void aParameterByReferenceIsTheVeryVariable() {
        Due.values("var a; proc p(@x); begin x:=x+1; write(x) end; begin a:=1; p(a); write(a) end.", 2, 2);
        Due.values("var a; proc p(@x); begin a:=9; write(x); x:=8; write(a) end; begin p(a) end.", 9, 8);
        Due.values("var a; proc p(@x,@y); begin x:=5; write(y); y:=6; write(x) end; begin p(a,a); write(a) end.", 5, 6, 6);
        Due.values("var a,b; proc s(@x,@y); var t; begin t:=x; x:=y; y:=t end; begin a:=1; b:=2; s(a,b); write(a); write(b) end.",
            2, 1);
        Due.values("proc p(@x); begin x:=3 end; proc q(v); begin p(v); write(v) end; begin q(1) end.", 3);
        Due.values("var a; proc p(@x); begin while x<3 do x:=x+1; if x=3 then write(x*x) end; begin p(a); write(a) end.", 9, 3);
    }

    private static void aReferenceMayStandForAReference() {
        Due.values("var a; proc p(@x); begin x:=x+1 end; proc q(@y); begin p(y); p(y) end; begin q(a); write(a) end.", 2);
        Due.values("var a; proc p(n,@x); begin if n>1 then p(n-1,x) else x:=7 end; begin p(10,a); write(a) end.", 7);
        Due.values("var a,b; proc p(n,@x,@y); begin if n>0 then p(n-1,y,x) else x:=y+1 end; begin p(3,a,b); write(a); write(b) end.",
            0, 1);
        Due.values("var a;proc p(@x);proc q(@y);begin y:=y+x end;begin q(x) end;begin a:=3;p(a);write(a) end.", 6);
    }

    private static void referencesGoAcrossCallsAndBlocks() {
        Due.values("proc p(n,@x);var l;begin l:=n;if n>0 then p(n-1,l);x:=x+l end;proc q;var r;begin p(3,r);write(r) end;"
            + "begin q end.", 6);
        Due.values("var a;proc p(@x);proc q;begin x:=x+2 end;begin q;q end;begin p(a);write(a) end.", 4);
        Due.values("var a;proc p(@x);proc q;proc r;begin x:=x+1;write(x)end;begin r end;begin q;q end;begin p(a);write(a)end.",
            1, 2, 2);
        // The variable that is referred to is hidden by one of the same name where it is used.
        Due.values("var a; proc p(@x); var a; begin a:=5; x:=x+1; write(a) end; begin a:=1; p(a); write(a) end.", 5, 2);
        Due.values("var b; proc p(@x); begin x:=x+1 end; proc q; proc r; begin p(b) end; begin r; r end; begin q; write(b) end.", 2);
        Due.values("var b;proc p(@x);begin x:=x+1 end;proc q;var c;proc r;begin p(c);p(b)end;begin r;r;write(c)end;begin q;write(b)end.",
            2, 2);
    }

    private static void argumentsStandInTheirOrder() {
        Due.values("var a;proc p(x,y,z);begin write(100*x+10*y+z) end;begin a:=1;p(a,a+1,a*3) end.", 123);
        Due.values("var a;proc p(@x,y,@z);begin x:=y;z:=y+1 end;proc q;var b;begin p(a,4,b);write(a);write(b) end;begin q end.",
            4, 5);
        Due.values("var a,b;proc p(x,@y,z);begin y:=x-z end;begin p(9,a,4);p(a,b,1);write(a);write(b) end.", 5, 4);
        Due.values("var a;proc p(x,@y);begin y:=x end;begin a:=5;p(a+1,a);p(a+1,a);write(a) end.", 7);
    }

    private static void allTwelveVariablesAreApart() {
        Due.values("var a,b,c,d,e,f,g,h,i,j,k,l; proc p; begin l:=l+1 end; begin a:=1; l:=5; p; write(a); write(k); write(l) end.",
            1, 0, 6);
        Due.values("proc p(a,b,c); var d,e,f,g,h,i,j,k,l; begin if a>0 then begin l:=a; d:=b; p(a-1,d+1,c); write(l); write(d);"
            + "write(e) end end; begin p(9,1,2); end.",
            1, 9, 0, 2, 8, 0, 3, 7, 0, 4, 6, 0, 5, 5, 0, 6, 4, 0, 7, 3, 0, 8, 2, 0, 9, 1, 0);
    }
}
