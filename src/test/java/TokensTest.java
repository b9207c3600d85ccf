/** Terms: the TOKENS of a text. */
final class TokensTest {
    private static final String[] WORDS = {"fun", "let", "if", "else", "while", "return", "abort",
        "print", "nil", "size", "push", "pop"};

    public static void main(String[] args) {
        asLongAsCanBe();
        blanks();
        names();
        namesEverywhere();
        words();
        numbers();
        textLengths();
        textSigns();
        firstBytes();
        bytesBehindName();
        Bench.finish();
    }

    private static void asLongAsCanBe() {
        Bench.says("TOKENS of a text, each as long as can be");
        Bench.result("ab = 1; a = 2; b = 3; return ab;", 1);
        Bench.result("return 12;", 12);
        Bench.fault("return 1 2;", 9);
        Bench.result("fun1 = 3; lets = 4; nil0 = 5; return fun1 + lets + nil0;", 12);
        Bench.result("return1;", Bench.NIL);
        Bench.result("return 1<=1;", 1);
        Bench.result("return 1!=!1;", 1);
        Bench.result("return!!7;", 1);
        Bench.result("return 3--2;", 5);
        Bench.fault("a === 1;", 4);
        Bench.fault("a <== 1;", 4);
        Bench.fault("a &&& b;", 4);
        Bench.fault("a ||| b;", 4);
        Bench.fault("1a;", 1);
        Bench.fault("return \"a\"\"b\";", 10);
    }

    private static void blanks() {
        Bench.says("with blanks (32) and byte 10 between where one likes");
        Bench.error("\n\n a\n=\n1 ;  \n", 0);
        Bench.result(" return\n1\n\n +  2 ;\n", 3);
        Bench.result("return(1)+2;", 3);
        for (int other = 0; other < 256; other++) {
            boolean isBlank = other == 32 || other == 10;
            if (other < 32 || other > 126) {
                new Bench().runs("a" + (char) other + "= 1;", isBlank ? 0 : 101);
            }
        }
        // None within a token.
        Bench.fault("re turn 1;", 3);
        Bench.fault("a ! = 1;", 2);
        Bench.fault("return a < = 1;", 11);
        Bench.fault("return a = = 1;", 9);
        Bench.fault("a & & b;", 2);
        Bench.fault("a | | b;", 2);
    }

    private static void names() {
        Bench.says("NAME: a small letter, then small letters and digits, at most 8");
        Bench.result("a = 2; return a;", 2);
        Bench.result("abcdefg = 3; return abcdefg;", 3);
        Bench.result("abcdefgh = 4; return abcdefgh;", 4);
        Bench.fault("abcdefghi = 5;", 0);
        Bench.result("a1234567 = 6; return a1234567;", 6);
        Bench.fault(" a12345678 = 7;", 1);
        Bench.fault(Bench.times(1400, "a") + " = 8;", 0);
        Bench.result("az09 = 1; z90a = 2; return az09 * 10 + z90a;", 12);
        Bench.result("abcdefgh = 1; abcdefgi = 2; abcdefg = 3; return abcdefgh * 10 + abcdefgi;", 12);
        Bench.fault("0a = 1;", 1);
        Bench.fault("A = 1;", 0);
        Bench.fault("aZ = 1;", 1);
        Bench.fault("a_b = 1;", 1);
        Bench.fault("a`b = 1;", 1);
    }

    /** A NAME may be as long wherever it stands, and no longer. */
    private static void namesEverywhere() {
        Bench.says("NAME: a small letter, then small letters and digits, at most 8");
        String[] around = {"let # = 1;", "#;", "#();", "a = {}; a.#;", "a = {}; a.# = 1;",
            "a = {#: 1};", "a = {b: 1, #: 2};", "fun #() {}", "fun f(#) {}", "fun f(a, #) {}"};
        for (String text : around) {
            Bench.noFault(text.replace("#", "abcdefg"));
            Bench.noFault(text.replace("#", "abcdefgh"));
            Bench.fault(text.replace("#", "abcdefghi"), text.indexOf('#'));
        }
    }

    private static void words() {
        Bench.says("words that are no names: fun let if else while return abort print nil size push pop");
        for (String word : WORDS) {
            Bench.fault("let " + word + " = 1;", 4);
            Bench.fault("a." + word + ";", 2);
            Bench.fault("a = {" + word + ": 1};", 5);
            Bench.fault("fun " + word + "() {}", 4);
            Bench.fault("fun f(" + word + ") {}", 6);
            String longer = word + "s";
            Bench.result(longer + " = 3; return " + longer + ";", 3);
            String shorter = word.substring(0, word.length() - 1);
            Bench.result(shorter + " = 4; return " + shorter + ";", 4);
        }
    }

    private static void numbers() {
        Bench.says("NUMBER: digits, at most 2147483647");
        Bench.result("return 0;", 0);
        Bench.result("return 2147483646;", 2147483646);
        Bench.result("return 2147483647;", 2147483647);
        Bench.fault("return 2147483648;", 7);
        Bench.fault("return -2147483648;", 8);
        Bench.result("return 00000000000000000002147483647;", 2147483647);
        Bench.fault("return 00000000000000000002147483648;", 7);
        // What would be small again if it wrapped around.
        Bench.fault("return 4294967295;", 7);
        Bench.fault("return 4294967296;", 7);
        Bench.fault("return 4294967297;", 7);
        Bench.fault("return 9223372036854775808;", 7);
        Bench.fault("return 18446744073709551616;", 7);
        Bench.fault("return 18446744073709551623;", 7);
        Bench.fault("return " + Bench.times(1000, "9") + ";", 7);
        Bench.result("return " + Bench.times(1000, "0") + "7;", 7);
        Bench.fault("return 1_0;", 8);
        Bench.fault("return 1.5;", 9);
    }

    private static void textLengths() {
        Bench.says("TEXT: \", at most 16 signs of 32 to 126 but \", then \"");
        String signs = "abcdefghijklmnopq";
        for (int size = 0; size <= 16; size++) {
            String text = signs.substring(0, size);
            Bench.resultText("return \"" + text + "\";", text);
        }
        Bench.fault("return \"" + signs + "\";", 7);
        Bench.fault("return \"" + Bench.times(1400, "a") + "\";", 7);
        Bench.fault("return \"", 7);
        Bench.fault("return \"abc;", 7);
        Bench.fault("return \"abcdefghijklmnop;", 7);
        Bench.fault("return \"" + signs, 7);
        Bench.fault("return \"a\" + \"b;", 13);
    }

    private static void textSigns() {
        Bench.says("TEXT: \", at most 16 signs of 32 to 126 but \", then \"");
        for (char sign = 0; sign < 256; sign++) {
            String text = "return \"x" + sign + "y\";";
            if (sign == '"') {
                Bench.fault(text, 10);
            } else if (sign >= 32 && sign <= 126) {
                Bench.resultText(text, "x" + sign + "y");
            } else {
                Bench.fault(text, 7);
            }
        }
    }

    /** Where a lone byte can stand, the FAULT is the end behind it; else it is the byte itself. */
    private static void firstBytes() {
        Bench.says("signs { } ( ) [ ] , ; : . = + - * / % < == != <= ! && ||");
        for (char sign = 0; sign < 256; sign++) {
            boolean isBlank = sign == ' ' || sign == 10;
            boolean begins = sign >= 'a' && sign <= 'z' || sign >= '0' && sign <= '9'
                    || "{([-!".indexOf(sign) >= 0;
            new Bench().runs("" + sign, isBlank ? 0 : begins ? 101 : 100);
        }
    }

    private static void bytesBehindName() {
        Bench.says("signs { } ( ) [ ] , ; : . = + - * / % < == != <= ! && ||");
        for (char sign = 0; sign < 256; sign++) {
            boolean goesOn = " \n([.=+-*/%<".indexOf(sign) >= 0;
            new Bench().runs("a " + sign, sign == ';' ? 0 : goesOn ? 103 : 102);
        }
        for (String sign : new String[] {"==", "!=", "<=", "&&", "||"}) {
            Bench.fault("a " + sign, 4);
            Bench.noFault("a " + sign + " a;");
        }
        Bench.fault("a =< b;", 3);
        Bench.fault("a => b;", 3);
        Bench.fault("a <> b;", 3);
        Bench.fault("a >= b;", 2);
        Bench.fault("a &= b;", 2);
        Bench.fault("a |= b;", 2);
        Bench.fault("a !! b;", 2);
    }
}
