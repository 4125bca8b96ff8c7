import java.util.NoSuchElementException;

/** Promise 6: run. */
public final class RunTest {
    public static void main(String[] args) {
        needsAProgram();
        arithmetic();
        statements();
        scopes();
        parameters();
        divisionByZero();
        tooManySteps();
        tooManyCalls();
        orderOfFailures();
        deepestExpression();
        runsAreAlike();
        failuresLeaveNothingBehind();
        Check.end();
    }

    private static void due(String text, int... values) {
        PascalMachine machine = Check.compiled(text);
        Check.answers("run of " + text, values.length, () -> machine.run());
        dueValues(machine, text, values);
    }

    private static void dueValues(PascalMachine machine, String text, int... values) {
        Check.equal("values of " + text, machine.count(0), values.length);
        for (int i = 0; i < values.length; i++) {
            int index = i;
            Check.answers("value " + i + " of " + text, values[i], () -> machine.output(index));
        }
    }

    private static void dueFailure(Class<? extends RuntimeException> failure, int steps, int deepest, String text,
            int... values) {
        PascalMachine machine = Check.compiled(text);
        Check.isThrown("run of " + text, failure, () -> machine.run());
        Check.equal("steps of " + text, machine.count(2), steps);
        Check.equal("calls of " + text, machine.count(3), deepest);
        dueValues(machine, text, values);
    }

    private static void dueSteps(int steps, String text) {
        PascalMachine machine = Check.compiled(text);
        Check.runAnyway(machine);
        Check.equal("steps of " + text, machine.count(2), steps);
    }

    private static void needsAProgram() {
        PascalMachine machine = Check.holding("begin write(1) end");
        Check.isThrown("run before a compile", NoSuchElementException.class, () -> machine.run());
        Check.isThrown("compile", IllegalArgumentException.class, () -> machine.compile());
        Check.isThrown("run after a fault", NoSuchElementException.class, () -> machine.run());
        Check.answers("fault", 18, () -> machine.fault());
        Check.answers("text", 18, () -> machine.count(4));
    }

    private static void arithmetic() {
        due("begin write(2+3*4); write((2+3)*4); write(10-3-2); write(100/10/5); write(17%10%4) end.", 14, 20, 5, 2, 3);
        due("begin write(-7/2); write(-7%2); write(7/(-2)); write(7%(-2)); write(-2+3); write(-2*3+1) end.",
            -3, -1, -3, 1, 1, -5);
        due("begin write(7*3/2); write(7/2*3); write(7%4*2); write(1-2*3-4) end.", 10, 9, 6, -9);
        due("begin write(999999999*3); write(2*999999999+147483649); write(65536*65536) end.",
            999999999 * 3, 2147483647, 0);
        due("begin write(2*999999999+147483649+1) end.", Integer.MIN_VALUE);
        due("var m; begin m:=65536*32768; write(m); write(-m); write(m-1); write(m/(-1)); write(m%(-1)); write(-m%3) end.",
            Integer.MIN_VALUE, Integer.MIN_VALUE, Integer.MAX_VALUE, Integer.MIN_VALUE, 0, 2);
        due("begin write(000000007) end.", 7);
    }

    private static void statements() {
        due("begin end.");
        due("var a; begin write(a); a:=a+1; write(a); a:=a*10; write(a) end.", 0, 1, 10);
        due("begin if 1=1 then write(1); if 1=2 then write(2); if 1<2 then write(3); if 2<2 then write(4);"
            + "if 2>1 then write(5); if 2>2 then write(6) end.", 1, 3, 5);
        due("begin if 1=1 then write(1) else write(2); if 1=2 then write(3) else write(4) end.", 1, 4);
        due("begin if 1=1 then if 1=2 then write(1) else write(2); if 1=2 then if 1=1 then write(3) else write(4) end.", 2);
        due("begin if 1=2 then begin if 1=1 then write(1) end else write(2) end.", 2);
        due("begin if 1=2 then begin write(1); write(2) end; write(3) end.", 3);
        due("begin if 1=1 then else write(1); if 1=2 then else write(2) end.", 2);
        due("var i; begin while i<3 do begin i:=i+1; write(i) end; write(9) end.", 1, 2, 3, 9);
        due("var i,j; begin while i<2 do begin j:=0; while j<2 do begin write(10*i+j); j:=j+1 end; i:=i+1 end end.",
            0, 1, 10, 11);
        due("begin while 1=2 do write(1) end.");
        due("var a; begin if -a<1 then write(-5) end.", -5);
        dueSteps(0, "begin ;begin end; end.");
        dueSteps(1, "begin if 1=1 then end.");
        dueSteps(1, "begin while 1=2 do end.");
        dueSteps(8, "var i; begin while i<3 do i:=i+1; write(i) end.");
        dueSteps(3, "proc p; begin end; begin p; if 1=1 then p else p end.");
    }

    private static void scopes() {
        due("var a; proc p; begin a:=a+1 end; begin p; p; write(a) end.", 2);
        due("var a; proc p; var a; begin a:=5; write(a) end; begin a:=1; p; write(a) end.", 5, 1);
        due("proc p; var a; begin write(a); a:=7; write(a) end; begin p; p end.", 0, 7, 0, 7);
        due("proc p(n); var a; begin a:=n; if n>0 then p(n-1); write(a) end; begin p(3) end.", 0, 1, 2, 3);
        due("var x; proc p; begin write(x) end; proc q; var x; begin x:=2; p end; begin x:=1; q end.", 1);
        due("proc f(n); proc g; begin write(n) end; begin if n=0 then g else f(n-1); g end; begin f(2) end.", 0, 0, 1, 2);
        due("proc a(n);var k;proc b(m);proc c;begin k:=k+m;write(k) end;begin if m>0 then b(m-1);c end;"
            + "begin k:=n;b(2) end;begin a(10) end.", 10, 11, 13);
        // The inner procedure was declared in the first run of f, whose variable it finds from within the second.
        due("proc f(n,i);proc g;begin write(i) end;proc h;begin if n=1 then f(0,2) else g;g end;begin h end;"
            + "begin f(1,1) end.", 2, 2, 1);
        due("var a; proc p; proc q; begin a:=1 end; begin q end; begin p; write(a) end.", 1);
        due("var a; proc a1; var a; proc b; var a; proc c; begin a:=3 end; begin c; write(a) end; begin b; write(a) end;"
            + "begin a1; write(a) end.", 3, 0, 0);
        due("var a; proc p; proc q; begin write(a) end; begin a:=4; q end; begin p end.", 4);
        due("var a,b,c,d,e,f,g,h,i,j,k,l; proc p; begin end; begin a:=1; l:=5; p; write(a); write(k); write(l) end.", 1, 0, 5);
    }

    private static void parameters() {
        due("var a; proc p(x); begin x:=x+1; write(x) end; begin a:=1; p(a); write(a) end.", 2, 1);
        due("var a; proc p(@x); begin x:=x+1; write(x) end; begin a:=1; p(a); write(a) end.", 2, 2);
        due("var a,b; proc s(@x,@y); var t; begin t:=x; x:=y; y:=t end; begin a:=1; b:=2; s(a,b); write(a); write(b) end.",
            2, 1);
        due("var a; proc p(@x,@y); begin x:=5; write(y); y:=6; write(x) end; begin p(a,a); write(a) end.", 5, 6, 6);
        due("var a; proc p(@x); begin a:=9; write(x); x:=8; write(a) end; begin p(a) end.", 9, 8);
        due("var a; proc p(@x); begin x:=x+1 end; proc q(@y); begin p(y); p(y) end; begin q(a); write(a) end.", 2);
        due("var a; proc p(n,@x); begin if n>0 then p(n-1,x) else x:=7 end; begin p(5,a); write(a) end.", 7);
        due("proc p(@x); begin x:=3 end; proc q(v); begin p(v); write(v) end; begin q(1) end.", 3);
        due("proc p(n,@x);var l;begin l:=n;if n>0 then p(n-1,l);x:=x+l end;proc q;var r;begin p(3,r);write(r) end;"
            + "begin q end.", 6);
        due("var a;proc p(@x);proc q;begin x:=x+2 end;begin q;q end;begin p(a);write(a) end.", 4);
        due("var a;proc p(@x);proc q(@y);begin y:=y+x end;begin q(x) end;begin a:=3;p(a);write(a) end.", 6);
        due("var a;proc p(x,y,z);begin write(100*x+10*y+z) end;begin a:=1;p(a,a+1,a*3) end.", 123);
        due("var a;proc p(@x,y,@z);begin x:=y;z:=y+1 end;proc q;var b;begin p(a,4,b);write(a);write(b) end;begin q end.",
            4, 5);
        due("var a;proc p(x,@y);begin y:=x end;begin a:=5;p(a+1,a);p(a+1,a);write(a) end.", 7);
    }

    private static void divisionByZero() {
        dueFailure(ArithmeticException.class, 2, 0, "begin write(1); write(1/0); write(2) end.", 1);
        dueFailure(ArithmeticException.class, 2, 0, "begin write(1); write(1%0); write(2) end.", 1);
        dueFailure(ArithmeticException.class, 1, 0, "var a; begin a:=5/a end.");
        dueFailure(ArithmeticException.class, 1, 0, "begin if 0/0=1 then write(1) else write(2) end.");
        dueFailure(ArithmeticException.class, 1, 0, "begin while 1/0=1 do write(1) end.");
        dueFailure(ArithmeticException.class, 1, 0, "proc p(x); begin write(x) end; begin p(1/0) end.");
        dueFailure(ArithmeticException.class, 2, 1, "proc p(x); begin write(1%x) end; begin p(0) end.");
        due("begin write(0/5); write(0%5) end.", 0, 0);
    }

    private static void tooManySteps() {
        dueFailure(IllegalStateException.class, 400, 0, "begin while 1=1 do end.");
        dueFailure(IllegalStateException.class, 400, 1, "proc p; begin end; begin while 1=1 do p end.");
        // 199 rounds of two steps, the last test and the write are 400; the second text has one more.
        due("var i; begin while i<199 do i:=i+1; write(i) end.", 199);
        dueSteps(400, "var i; begin while i<199 do i:=i+1; write(i) end.");
        dueFailure(IllegalStateException.class, 400, 0,
            "var i; begin while i<199 do i:=i+1; write(i); write(i) end.", 199);
        dueFailure(IllegalStateException.class, 400, 0,
            "var i; begin while i<199 do i:=i+1; write(i); i:=1 end.", 199);
        dueFailure(IllegalStateException.class, 400, 0,
            "var i; begin while i<199 do i:=i+1; write(i); if 1=1 then end.", 199);
        dueFailure(IllegalStateException.class, 400, 0,
            "proc p; begin end; begin while 1=1 do if 1=2 then p end.");
    }

    private static void tooManyCalls() {
        dueFailure(IndexOutOfBoundsException.class, 11, 10, "proc p; begin p end; begin p end.");
        dueFailure(IndexOutOfBoundsException.class, 11, 10,
            "proc p; proc q; begin p end; begin q end; begin p end.");
        due("proc p(n); begin if n>1 then p(n-1) else write(n) end; begin p(10); p(10) end.", 1, 1);
        dueFailure(IndexOutOfBoundsException.class, 21, 10,
            "proc p(n); begin if n>1 then p(n-1) else write(n) end; begin p(11) end.");
        due("var i; proc p; begin i:=i+1 end; begin while i<20 do p; write(i) end.", 20);
    }

    private static void orderOfFailures() {
        // The eleventh call's argument divides by 0: it is evaluated before the call is found to be too deep.
        dueFailure(ArithmeticException.class, 11, 10, "proc p(n); begin p(1/(n-1)*0+n-1) end; begin p(10) end.");
        dueFailure(IndexOutOfBoundsException.class, 11, 10, "proc p(n); begin p(1/(n-1)*0+n-1) end; begin p(11) end.");
        // Ten calls and 389 other steps: the step of the eleventh call is the 400th, or the 401st.
        String calls = "var i; proc p(n); begin if n=1 then while i<%d do i:=i+1; p(n-1) end; begin %s p(10) end.";
        dueFailure(IndexOutOfBoundsException.class, 400, 10, String.format(calls, 189, ""));
        dueFailure(IllegalStateException.class, 400, 10, String.format(calls, 189, "i:=0;"));
        dueFailure(IllegalStateException.class, 400, 0,
            "var i; begin while i<199 do i:=i+1; write(i); write(1/0) end.", 199);
    }

    private static void deepestExpression() {
        String deep = "1+1*(".repeat(8) + "1+1*1" + ")".repeat(8);
        due("proc p(x,y,z); begin write(100*x+10*y+z) end; begin p(1,2," + deep + "); write(" + deep + ") end.", 130, 10);
        due("begin if " + deep + "=" + deep + " then write(1) else write(2) end.", 1);
    }

    private static void runsAreAlike() {
        PascalMachine machine = Check.compiled("var a; proc p(@x); var l; begin x:=x+1; l:=l+1; write(x+l) end; begin p(a); p(a) end.");
        for (int i = 0; i < 5; i++) {
            Check.answers("run " + i, 2, () -> machine.run());
            dueValues(machine, "run " + i, 2, 3);
        }
        Check.replace(machine, "proc p(n); begin write(n); p(n/n+n) end; begin p(1) end.");
        machine.compile();
        for (int i = 0; i < 3; i++) {
            Check.isThrown("failing run " + i, IndexOutOfBoundsException.class, () -> machine.run());
            dueValues(machine, "failing run " + i, 1, 2, 3, 4, 5, 6, 7, 8, 9, 10);
            Check.equal("steps of failing run " + i, machine.count(2), 21);
        }
    }

    private static void failuresLeaveNothingBehind() {
        String deep = "1+1*(".repeat(8) + "1+1*1" + ")".repeat(8);
        PascalMachine machine = Check.compiled("proc p(x,y); begin write(1+2*(3+4/(x-y))) end; begin p(1,1) end.");
        for (int i = 0; i < 30; i++) {
            Check.isThrown("failing run " + i, ArithmeticException.class, () -> machine.run());
        }
        Check.replace(machine, "var a; begin write(a); write(" + deep + ") end.");
        machine.compile();
        Check.answers("run after failures", 2, () -> machine.run());
        dueValues(machine, "run after failures", 0, 10);
        Check.equal("calls after failures", machine.count(3), 0);
    }
}
