/** The terms' run: values are ints, arithmetic wraps, and a divisor 0 is a failure. */
public final class ArithmeticTest {
    private static final int MIN = Integer.MIN_VALUE;
    private static final int MAX = Integer.MAX_VALUE;
    private static final int[] EDGES = {0, 1, -1, 2, -2, 3, -3, 7, -7, 46341, -46341, 65536, 999999999, -999999999,
        MAX - 1, MAX, MIN, MIN + 1, MIN / 2, MAX / 2 + 1};

    public static void main(String[] args) {
        operationsWrap();
        comparisonsAreOfWholeInts();
        aMinusIsOfTheWholeTerm();
        operationsAreInTheirOrder();
        aDivisor0IsTheFailure();
        aDivisorIsLookedAtWhenItDivides();
        deepestExpression();
        Check.end();
    }

    /** An expression for the value: a number of ten digits is no token, so it is made of two numbers. */
    private static String expression(int value) {
        int thousands = value / 1000;
        int rest = value % 1000;
        return sign(thousands) + Math.abs(thousands) + "*1000" + (rest < 0 ? "-" : "+") + Math.abs(rest);
    }

    private static String sign(int value) {
        return value < 0 ? "-" : "";
    }

    private static void operationsWrap() {
        for (int x : EDGES) {
            Due.values("var x; begin x:=" + expression(x) + "; write(x); write(-x); write(-x+x) end.", x, (int) -(long) x, 0);
            for (int y : EDGES) {
                dueOperations(x, y);
            }
        }
        Due.values("begin write(999999999*3); write(65536*65536); write(65536*32768) end.", -1294967299, 0, MIN);
    }

    private static void dueOperations(int x, int y) {
        String variables = "var x,y; begin x:=" + expression(x) + "; y:=" + expression(y) + "; ";
        Due.values(variables + "write(x+y); write(x-y); write(x*y) end.",
            (int) ((long) x + y), (int) ((long) x - y), (int) ((long) x * y));
        if (y == 0) {
            Due.failure(ArithmeticException.class, 3, 0, variables + "write(x/y) end.");
            Due.failure(ArithmeticException.class, 3, 0, variables + "write(x%y) end.");
        } else {
            Due.values(variables + "write(x/y); write(x%y) end.", (int) ((long) x / y), (int) ((long) x % y));
        }
    }

    private static void comparisonsAreOfWholeInts() {
        for (int x : EDGES) {
            for (int y : EDGES) {
                String variables = "var x,y; begin x:=" + expression(x) + "; y:=" + expression(y) + "; ";
                Due.values(variables + "if x=y then write(1) else write(0); if x<y then write(1) else write(0);"
                    + "if x>y then write(1) else write(0) end.", x == y ? 1 : 0, x < y ? 1 : 0, x > y ? 1 : 0);
            }
        }
    }

    private static void aMinusIsOfTheWholeTerm() {
        Due.values("begin write(-7/2); write(-7%2); write(-2*3+1); write(-2+3); write(-(2+3)); write(-(-(-4))) end.",
            -3, -1, -5, 1, -5, -4);
        // Of the least int it shows: its remainder by 3 is -2, and it is its own negative.
        Due.values("var m; begin m:=65536*32768; write(-m%3); write((-m)%3); write(-m/2); write((-m)/2) end.",
            2, -2, 1073741824, -1073741824);
    }

    private static void operationsAreInTheirOrder() {
        Due.values("begin write(2+3*4); write((2+3)*4); write(10-3-2); write(100/10/5); write(17%10%4) end.", 14, 20, 5, 2, 3);
        Due.values("begin write(7*3/2); write(7/2*3); write(7%4*2); write(1-2*3-4); write(10-(3-2)) end.", 10, 9, 6, -9, 9);
        Due.values("begin write(7/2); write(7%2); write((-7)/2); write((-7)%2); write(7/(-2)); write(7%(-2));"
            + "write((-7)/(-2)); write((-7)%(-2)) end.", 3, 1, -3, -1, -3, 1, 3, -1);
    }

    private static void aDivisor0IsTheFailure() {
        Due.failure(ArithmeticException.class, 2, 0, "begin write(1); write(1/0); write(2) end.", 1);
        Due.failure(ArithmeticException.class, 2, 0, "begin write(1); write(1%0); write(2) end.", 1);
        Due.failure(ArithmeticException.class, 1, 0, "var a; begin a:=5/a end.");
        Due.failure(ArithmeticException.class, 1, 0, "begin write(0/0) end.");
        Due.failure(ArithmeticException.class, 1, 0, "begin write(5/(3-3)) end.");
        Due.failure(ArithmeticException.class, 1, 0, "begin if 0/0=1 then write(1) else write(2) end.");
        Due.failure(ArithmeticException.class, 1, 0, "begin if 1=1%0 then write(1) else write(2) end.");
        Due.failure(ArithmeticException.class, 1, 0, "begin while 1/0=1 do write(1) end.");
        Due.failure(ArithmeticException.class, 1, 0, "proc p(x); begin write(x) end; begin p(1/0) end.");
        Due.failure(ArithmeticException.class, 2, 1, "proc p(x); begin write(1%x) end; begin p(0) end.");
        Due.failure(ArithmeticException.class, 4, 2,
            "proc q; begin write(4/0); write(1) end; proc p; begin write(7); q; write(2) end; begin p; write(3) end.", 7);
    }

    private static void aDivisorIsLookedAtWhenItDivides() {
        Due.values("begin write(0/5); write(0%5); write(0/(-1)) end.", 0, 0, 0);
        Due.values("begin if 1=2 then write(1/0) else write(2); if 1=1 then else write(1%0) end.", 2);
        Due.values("proc p; begin write(1/0) end; begin while 1=2 do p; write(3) end.", 3);
        // Whatever a failed run has left in its variables, the next one begins with 0.
        PascalMachine machine = Check.compiled("var a; begin a:=a+3; write(a); a:=a/(3-a) end.");
        for (int i = 0; i < 3; i++) {
            Check.isThrown("failing run " + i, ArithmeticException.class, () -> machine.run());
            Due.output(machine, "failing run " + i, 3);
        }
    }

    private static void deepestExpression() {
        String deep = "1+1*(".repeat(8) + "1+1*1" + ")".repeat(8);
        Due.values("proc p(x,y,z); begin write(100*x+10*y+z) end; begin p(1,2," + deep + "); write(" + deep + ") end.", 130, 10);
        Due.values("begin if " + deep + "=" + deep + " then write(1) else write(2) end.", 1);
        Due.values("begin write(" + "-1-(".repeat(8) + "5" + ")".repeat(8) + ") end.", 5);
    }
}
