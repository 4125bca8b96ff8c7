/** The terms' tokens: how long they are, of what they are, and how many there are. */
public final class TokenTest {
    private static final String[] WORDS = {
        "var", "proc", "begin", "end", "if", "then", "else", "while", "do", "write"};

    public static void main(String[] args) {
        aWordHasAtMostSix();
        aWordBeginsWithASmallLetter();
        wordsDifferInEachCharacter();
        aNumberHasAtMostNine();
        theTenWordsAreNoNames();
        allOtherWordsAreNames();
        otherCharactersAreFaults();
        aColonNeedsItsEqualSign();
        aTokenIsAsLongAsItCanBe();
        blanksPartTokens();
        atMost150Tokens();
        a151stIsAFault();
        Check.end();
    }

    private static void aWordHasAtMostSix() {
        for (int length = 1; length <= 6; length++) {
            for (String word : new String[] {"abcdef", "z98765", "p0q1r2", "zzzzzz"}) {
                String name = word.substring(0, length);
                Due.values("var " + name + "; begin " + name + ":=4; write(" + name + ") end.", 4);
            }
        }
        for (int length : new int[] {7, 8, 9, 12, 16, 17, 22, 64, 250}) {
            for (String start : new String[] {"a", "z9", "begin"}) {
                String word = start + "a".repeat(length - start.length());
                Due.fault("var ^" + word + "; begin end.");
                Due.fault("begin ^" + word + " end.");
                Due.fault("begin write(^" + word + ") end.");
                Due.fault("^" + word);
            }
        }
        Due.fault("var ^a123456; begin end.");
        Due.fault("begin end. ^abcdefg");
        Due.fault("var abcdef,^abcdefg; begin end.");
    }

    private static void aWordBeginsWithASmallLetter() {
        Due.fault("var ^1a; begin end.");
        Due.fault("var ^A; begin end.");
        Due.fault("var a^A; begin end.");
        Due.fault("^Begin end.");
        Due.fault("begin write(1^abcdef) end.");
        Due.fault("begin ^_ end.");
    }

    private static void wordsDifferInEachCharacter() {
        String word = "aaaaaa";
        for (int at = 0; at < 6; at++) {
            for (String other : new String[] {"b", "z"}) {
                String name = word.substring(0, at) + other + word.substring(at + 1);
                Due.values("var " + word + "," + name + "; begin " + name + ":=5; write(" + word + "); write(" + name
                    + ") end.", 0, 5);
            }
            if (at > 0) {
                Due.sound(2, "var " + word + "," + word.substring(0, at) + "; begin end.");
                Due.sound(2, "var " + word + "," + word.substring(0, at) + "0" + word.substring(at + 1) + "; begin end.");
            }
        }
    }

    private static void aNumberHasAtMostNine() {
        int value = 0;
        for (int length = 1; length <= 9; length++) {
            value = value * 10 + 9;
            Due.values("begin write(" + value + "); write(" + "0".repeat(length - 1) + "7) end.", value, 7);
        }
        Due.values("begin write(123456789); write(000000000) end.", 123456789, 0);
        for (String number : new String[] {"1234567890", "0000000000", "0000000001", "2147483647", "4294967297",
            "00000000001", "9".repeat(20), "1" + "0".repeat(64), "0".repeat(250)}) {
            Due.fault("begin write(^" + number + ") end.");
            Due.fault("var a; begin a:=1+^" + number + " end.");
            Due.fault("begin ^" + number);
        }
        Due.fault("begin write(^1234567890a) end.");
        Due.fault("begin end.^1234567890");
    }

    private static void theTenWordsAreNoNames() {
        for (String word : WORDS) {
            Due.fault("var ^" + word + "; begin end.");
            Due.fault("var a,^" + word + "; begin end.");
            Due.fault("proc ^" + word + "; begin end; begin end.");
            Due.fault("proc p(^" + word + "); begin end; begin end.");
            Due.fault("proc p(@^" + word + "); begin end; begin end.");
            Due.fault("begin write(^" + word + ") end.");
        }
    }

    private static void allOtherWordsAreNames() {
        for (String word : WORDS) {
            dueName(word + "1");
            dueName(word + "x");
            dueName("x" + word);
            dueName(word.substring(0, word.length() - 1));
        }
        for (String word : new String[] {"int", "not", "and", "or", "mod", "div", "for", "to", "until", "repeat", "read",
            "call", "const", "odd", "return", "func", "e", "ref", "nil", "true", "false", "of"}) {
            dueName(word);
        }
    }

    private static void dueName(String word) {
        Due.values("var " + word + ";begin " + word + ":=3;write(" + word + ")end.", 3);
        Due.values("proc " + word + "(x);begin write(x)end;begin " + word + "(8)end.", 8);
    }

    private static void otherCharactersAreFaults() {
        for (char c = 33; c <= 126; c++) {
            if (c != ';') {
                Due.faultAt(6, "begin " + c + " end.");
            }
            Due.faultAt(10, "begin end." + c);
            Due.faultAt(12, "begin end.  " + c + " ");
            if (c != '-' && c != '(' && !isDigit(c)) {
                Due.faultAt(12, "begin write(" + c + "1) end.");
            }
            if ("+-*/%)".indexOf(c) < 0 && !isDigit(c)) {
                Due.faultAt(13, "begin write(1" + c + "1) end.");
            }
            if ("=<>+-*/%".indexOf(c) < 0 && !isDigit(c)) {
                Due.faultAt(10, "begin if 1" + c + "1=1 then end.");
            }
            dueInsideAWord(c);
        }
    }

    private static void dueInsideAWord(char c) {
        String text = "var a" + c + "b; begin end.";
        if (isDigit(c) || c >= 'a' && c <= 'z') {
            Due.sound(1, text);
        } else if (c == ',') {
            Due.sound(2, text);
        } else {
            Due.faultAt(c == ';' ? 6 : 5, text);
        }
    }

    private static boolean isDigit(char c) {
        return c >= '0' && c <= '9';
    }

    private static void aColonNeedsItsEqualSign() {
        Due.values("var a; begin a:=5; a:= a ; a :=a+1; write(a) end.", 6);
        Due.fault("var a; begin ^a: =1 end.");
        Due.fault("var a; begin ^a : = 1 end.");
        Due.fault("var a; begin ^a:1 end.");
        Due.fault("var a; begin ^a:");
        Due.fault("var a; begin ^a=1 end.");
        Due.fault("var a; begin ^a=:1 end.");
        Due.fault("var a; begin ^a::=1 end.");
        Due.fault("begin write(1^:2) end.");
        Due.fault("begin^:");
        Due.fault("begin ^:= end.");
        // A colon as the text's 300th character has nothing behind it to look at.
        Due.fault("begin" + " ".repeat(294) + "^:");
        Due.fault("var a; begin ^a" + " ".repeat(285) + ":");
        Due.fault("var a; begin a" + " ".repeat(284) + ":=^");
    }

    private static void aTokenIsAsLongAsItCanBe() {
        Due.fault("^beginend end.");
        Due.fault("^vara; begin end.");
        Due.fault("begin ^write1(1) end.");
        Due.fault("begin ^end1.");
        Due.values("var a;begin a:=1;if a=1then write(2)else a:=3end.", 2);
        Due.values("var a1b;begin a1b:=12;write(a1b)end.", 12);
        Due.fault("var a; begin a:=^=1 end.");
        Due.fault("var a; begin a:=^:=1 end.");
        Due.fault("begin if 1<^=1 then end.");
        Due.fault("begin if 1>^=1 then end.");
        Due.fault("begin if 1<^>1 then end.");
        Due.fault("begin if 1=^=1 then end.");
        Due.fault("begin write(1*^*1) end.");
        Due.fault("begin write(2/^/1) end.");
    }

    private static void blanksPartTokens() {
        Due.sound(0, "  begin   end  .  ");
        Due.sound(0, "begin" + " ".repeat(291) + "end.");
        Due.sound(0, " ".repeat(290) + "begin end.");
        Due.sound(0, "begin end." + " ".repeat(290));
        Due.values(" var a ; begin a := 1 + 2 * ( 3 - 4 ) ; write ( a ) end . ", -1);
        Due.fault("^be gin end.");
        Due.fault("begin ^en d.");
        Due.fault("begin write(1 ^2) end.");
        Due.fault("var a ^b; begin end.");
        Due.fault("proc p ^q; begin end; begin end.");
    }

    private static void atMost150Tokens() {
        Due.sound(0, "begin " + ";".repeat(146) + "end.");
        Due.sound(0, "begin " + ";".repeat(147) + "end.");
        Due.sound(0, "begin " + ";".repeat(147) + "end.   ");
        Due.sound(0, "begin" + " ;".repeat(140) + ";".repeat(7) + "end .");
        // Ten tokens beside the 23 assignments of six each, and two semicolons more.
        String assignments = "var a;begin " + "a:=1+a;".repeat(23) + "write(a)";
        Due.values(assignments + ";;end.", 23);
        Due.fault(assignments + ";;;end^.");
    }

    private static void a151stIsAFault() {
        Due.fault("begin " + ";".repeat(148) + "end^.");
        Due.fault("begin " + ";".repeat(148) + "end  ^.  ");
        for (String last : new String[] {"end", "begin", "a", "abcdefg", "1", "1234567890", ";", ":=", "?", ":"}) {
            Due.fault("begin " + ";".repeat(149) + "^" + last);
        }
        Due.fault("begin " + ";".repeat(147) + "end.^.");
        Due.fault("begin " + ";".repeat(147) + "end. ^begin");
        Due.fault("begin " + ";".repeat(149) + "^");
        Due.fault("^" + ";".repeat(200));
        // The arguments have not all been read where the bracket behind them is the 151st.
        Due.fault("proc p;begin end;begin " + ";".repeat(140) + "p(1^)");
        Due.fault("proc p;begin end;begin " + ";".repeat(139) + "^p(1)");
        Due.fault("begin " + ";".repeat(40) + "^)" + ";".repeat(200));
    }
}
