/** The terms' grammar: which tokens can stand behind a beginning of a text, and what a text without a fault is. */
public final class GrammarTest {
    // In the beginnings a is a variable, p and q are procedures, and b is not declared.
    private static final String NAMES = "var a; proc p; begin end; proc q(x); begin end; ";

    private static final String ANY_NAME = "a p b";
    private static final String STATEMENT = "p ; begin end if while write";
    private static final String EXPRESSION = "- 1 a (";
    private static final String FACTOR = "1 a (";
    private static final String OPERATOR = "+ - * / %";
    private static final String COMPARISON = "= < > " + OPERATOR;

    public static void main(String[] args) {
        programsAndBlocks();
        procedures();
        statements();
        ifsAndWhiles();
        assignmentsAndWrites();
        calls();
        expressions();
        nothingStandsBehindTheDot();
        textsWithoutAFault();
        Check.end();
    }

    /** Behind the beginning, these tokens can stand and no others. */
    private static void due(String beginning, String tokens) {
        for (String token : Due.TOKENS) {
            String text = beginning + " " + token;
            boolean canStand = (" " + tokens + " ").contains(" " + token + " ");
            // Behind a token that can stand, the next one lacks.
            Due.faultAt(canStand ? text.length() : text.length() - token.length(), text);
        }
        for (String token : Due.NO_TOKENS) {
            Due.faultAt(beginning.length() + 1, beginning + " " + token);
        }
        Due.faultAt(beginning.length(), beginning);
    }

    private static void programsAndBlocks() {
        due("", "var proc begin");
        due("var", ANY_NAME);
        due("var x", ", ;");
        due("var x,", ANY_NAME);
        due("var x,y", ", ;");
        due("var x;", "proc begin");
        due("begin begin end", "; end");
        due("var x; begin begin end", "; end");
    }

    private static void procedures() {
        due("proc", ANY_NAME);
        due("proc x", "( ;");
        due("proc x(", "@ " + ANY_NAME);
        due("proc x(@", ANY_NAME);
        due("proc x(y", ", )");
        due("proc x(@y", ", )");
        due("proc x(y,", "@ " + ANY_NAME);
        due("proc x(y)", ";");
        due("proc x(y,@z)", ";");
        due("proc x;", "var proc begin");
        due("proc x(y);", "var proc begin");
        due("proc x; var y;", "proc begin");
        due("proc x; begin end", ";");
        due("proc x; begin end;", "proc begin");
        due("proc x; proc y; begin end;", "proc begin");
        due("proc x; proc y; begin end; begin end;", "proc begin");
    }

    private static void statements() {
        due(NAMES + "begin", STATEMENT);
        due(NAMES + "begin;", STATEMENT);
        due(NAMES + "begin write(1);", STATEMENT);
        due(NAMES + "begin begin", STATEMENT);
        due(NAMES + "begin begin ;", STATEMENT);
        due(NAMES + "begin begin end", "; end");
        due("var a; proc p; begin", STATEMENT);
        due("var a; proc p; begin begin end", "; end");
    }

    private static void ifsAndWhiles() {
        for (String word : new String[] {"if", "while"}) {
            due(NAMES + "begin " + word, EXPRESSION);
            due(NAMES + "begin " + word + " 1", COMPARISON);
            due(NAMES + "begin " + word + " a", COMPARISON);
            for (String sign : new String[] {"=", "<", ">"}) {
                due(NAMES + "begin " + word + " 1" + sign, EXPRESSION);
                due(NAMES + "begin " + word + " 1" + sign + "1", (word.equals("if") ? "then " : "do ") + OPERATOR);
            }
        }
        due(NAMES + "begin if 1=1 then", "else " + STATEMENT);
        due(NAMES + "begin if 1=1 then;", STATEMENT);
        due(NAMES + "begin if 1=1 then write(1)", "else ; end");
        due(NAMES + "begin if 1=1 then begin end", "else ; end");
        due(NAMES + "begin if 1=1 then begin", STATEMENT);
        due(NAMES + "begin if 1=1 then begin if 1=1 then end", "else ; end");
        due(NAMES + "begin if 1=1 then a:=1", "else ; end " + OPERATOR);
        due(NAMES + "begin if 1=1 then else", STATEMENT);
        due(NAMES + "begin if 1=1 then else write(1)", "; end");
        due(NAMES + "begin if 1=1 then else if 1=1 then", "else " + STATEMENT);
        due(NAMES + "begin if 1=1 then if 1=1 then else", "else " + STATEMENT);
        due(NAMES + "begin if 1=1 then if 1=1 then else else", STATEMENT);
        due(NAMES + "begin while 1=1 do", STATEMENT);
        due(NAMES + "begin while 1=1 do;", STATEMENT);
        due(NAMES + "begin while 1=1 do write(1)", "; end");
        due(NAMES + "begin if 1=1 then while 1=1 do", "else " + STATEMENT);
        due(NAMES + "begin while 1=1 do if 1=1 then", "else " + STATEMENT);
        due(NAMES + "begin while 1=1 do if 1=1 then else", STATEMENT);
    }

    private static void assignmentsAndWrites() {
        due(NAMES + "begin a:=", EXPRESSION);
        due(NAMES + "begin a:=1", "; end " + OPERATOR);
        due(NAMES + "begin a:=a", "; end " + OPERATOR);
        due(NAMES + "begin write", "(");
        due(NAMES + "begin write(", EXPRESSION);
        due(NAMES + "begin write(1", ") " + OPERATOR);
        due(NAMES + "begin write(1)", "; end");
    }

    private static void calls() {
        due(NAMES + "begin q(", EXPRESSION);
        due(NAMES + "begin q(1", ", ) " + OPERATOR);
        due(NAMES + "begin q(a", ", ) " + OPERATOR);
        due(NAMES + "begin q(1,", EXPRESSION);
        due(NAMES + "begin q(1)", "; end");
        due(NAMES + "begin if 1=1 then q(1)", "else ; end");
        due(NAMES + "begin p(", EXPRESSION);
    }

    private static void expressions() {
        due(NAMES + "begin a:=-", FACTOR);
        due(NAMES + "begin a:=-1", "; end " + OPERATOR);
        for (String operator : OPERATOR.split(" ")) {
            due(NAMES + "begin a:=1" + operator, FACTOR);
            due(NAMES + "begin a:=1" + operator + "1", "; end " + OPERATOR);
            due(NAMES + "begin a:=(1" + operator, FACTOR);
        }
        due(NAMES + "begin a:=(", EXPRESSION);
        due(NAMES + "begin a:=(1", ") " + OPERATOR);
        due(NAMES + "begin a:=(-a", ") " + OPERATOR);
        due(NAMES + "begin a:=(1)", "; end " + OPERATOR);
        due(NAMES + "begin a:=((1)", ") " + OPERATOR);
        due(NAMES + "begin write((1)", ") " + OPERATOR);
        due(NAMES + "begin q((1)", ", ) " + OPERATOR);
    }

    private static void nothingStandsBehindTheDot() {
        for (String text : new String[] {"begin end", "var a; proc p; begin end; begin p end"}) {
            for (String token : Due.TOKENS) {
                if (!token.equals(".")) {
                    Due.faultAt(text.length() + 1, text + " " + token);
                }
                Due.faultAt(text.length() + 2, text + ". " + token);
            }
            for (String token : Due.NO_TOKENS) {
                Due.faultAt(text.length() + 1, text + " " + token);
                Due.faultAt(text.length() + 2, text + ". " + token);
            }
            Due.faultAt(text.length(), text);
        }
    }

    private static void textsWithoutAFault() {
        Due.sound(0, "begin end.");
        Due.sound(0, "begin;;;end.");
        Due.sound(0, "begin begin end; begin ; end end.");
        Due.sound(0, "begin if 1=1 then end.");
        Due.sound(0, "begin if 1<1 then else end.");
        Due.sound(0, "begin if 1>1 then if 1=2 then else else end.");
        Due.sound(0, "begin while 1=0 do end.");
        Due.sound(0, "begin write(-1+2-3*4/5%6) end.");
        Due.sound(0, "begin write(-(-(-1))) end.");
        Due.sound(0, "begin write(1)end.");
        Due.sound(1, "var a;begin a:=1;if a=1then write(2)else a:=3end.");
        Due.sound(2, "proc p(p); begin p:=1 end; begin p(1) end.");
        Due.sound(3, "var a; proc p(a); begin a:=1 end; begin p(a) end.");
        Due.sound(2, "proc p; begin p end; proc q; begin p; q end; begin q; p end.");
        Due.sound(3, "proc p; var p; begin p:=1 end; proc q; begin p end; begin p; q end.");
        Due.sound(5, "var a; proc p(@x,y); begin end; proc q; begin p(a,a+1) end; begin q; p(a,(a)) end.");
    }
}
