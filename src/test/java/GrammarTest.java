/** Terms: PROGRAM to ATOM, how deep things lie in one another, and the FAULT of a text. */
final class GrammarTest {
    /** Tokens with a blank between them; "#" stands where the text may end. */
    static final String[] PROGRAMS = {"# fun f ( ) { } # fun f ( a ) { } #",
        "# fun f ( a , b , c , d ) { a ; return b ; } # a ; #", "# { } # { { } a ; { b ; } } #",
        "# let a = 1 ; #", "# if ( a ) { b ; c ; } # else { d ; } # e ; #",
        "# if ( a ) { if ( b ) { } } # if ( c ) { } # else { } #", "# while ( a ) { b ; } #",
        "# return ; #", "# return a ; #", "# abort ; #", "# print a ; #", "# a ; #", "# a = b ; #",
        "# a . b = c ; #", "# a [ b ] = c ; #", "# f ( a , b ) . c [ d ] = e ; #",
        "# a || b && c == d + e * - f ; #", "# a != b - c / d ; #", "# a < b % c ; #", "# a <= ! b ; #",
        "# - ! a . b [ c ] . d ; #", "# size ( a ) ; #", "# push ( a , b ) ; #", "# pop ( a ) ; #",
        "# ( a ) ; #", "# a = { } ; #", "# a = { b : c , d : e } ; #", "# [ ] ; #",
        "# [ a , nil , 1 , \"x\" ] ; #", "# f ( ) ; #", "# f ( a , b , c , d , e ) ; #"};

    public static void main(String[] args) {
        everyPrefix();
        programs();
        functions();
        namesOfFunctions();
        statements();
        blocks();
        assignments();
        levels();
        compareOnce();
        atoms();
        noRecordFirst();
        depthOfKinds();
        depthOfConditions();
        depthOfStatements();
        depthBehind();
        places();
        placeOfEnd();
        Bench.finish();
    }

    /** All that stands before a token can stand there: so a bad byte behind it is the first FAULT. */
    private static void everyPrefix() {
        Bench.says("PROGRAM: { FUNCTION / STATEMENT }.");
        for (String program : PROGRAMS) {
            StringBuilder before = new StringBuilder();
            boolean mayEnd = false;
            for (String token : program.split(" ")) {
                if (token.equals("#")) {
                    mayEnd = true;
                    Bench.noFault(before.toString());
                    continue;
                }
                if (!mayEnd) {
                    Bench.fault(before.toString(), before.length());
                }
                Bench.fault(before + "@", before.length());
                before.append(token).append(' ');
                mayEnd = false;
            }
        }
    }

    private static void programs() {
        Bench.says("PROGRAM: { FUNCTION / STATEMENT }.");
        Bench.error("", 0);
        Bench.error(" \n ", 0);
        Bench.error(Bench.times(750, "a;"), 0);
        Bench.result("a = f(1); fun f(x) { return x + 1; } a = a + g(); fun g() { return 4; } return a;", 6);
        Bench.fault(";", 0);
        Bench.fault("}", 0);
        Bench.fault("a;;", 2);
        Bench.fault("{}}", 2);
    }

    private static void functions() {
        Bench.says("FUNCTION: fun NAME \"(\" [ NAMES ] \")\" BLOCK");
        Bench.fault("fun 1() {}", 4);
        Bench.fault("fun () {}", 4);
        Bench.fault("fun f {}", 6);
        Bench.fault("fun f(1) {}", 6);
        Bench.fault("fun f(,) {}", 6);
        Bench.fault("fun f(a b) {}", 8);
        Bench.fault("fun f(a,) {}", 8);
        Bench.fault("fun f() a;", 8);
        Bench.fault("fun f() return 1;", 8);
        Bench.fault("fun f() {};", 10);
        Bench.fault("fun f() { fun g() {} }", 10);
        Bench.fault("{ fun f() {} }", 2);
        Bench.fault("if (1) { fun f() {} }", 9);
    }

    private static void namesOfFunctions() {
        Bench.says("NAMES: NAME { \",\" NAME }, at most 4, all different");
        Bench.result("fun f() { return 7; } return f();", 7);
        Bench.result("fun f(a) { return a; } return f(1);", 1);
        Bench.result("fun f(a, b, c) { return a * 100 + b * 10 + c; } return f(1, 2, 3);", 123);
        Bench.result("fun f(a, b, c, d) { return a * 1000 + b * 100 + c * 10 + d; } return f(1, 2, 3, 4);",
                1234);
        Bench.fault("fun f(a, b, c, d, e) {}", 18);
        Bench.fault("fun f(a, b, c, d, ) {}", 18);
        Bench.fault("fun f(a, b, c, d, e, g) {}", 18);
        Bench.fault("fun f(a, b, c, d, a) {}", 18);
        Bench.fault("fun f(a, a) {}", 9);
        Bench.fault("fun f(a, b, a) {}", 12);
        Bench.fault("fun f(a, b, c, c) {}", 15);
        Bench.fault("fun f(a, b, c, b) {}", 15);
        Bench.fault("fun f(a, b, c, a) {}", 15);
        Bench.fault("fun f(a, a, 1) {}", 9);
        Bench.noFault("fun f(a, aa, a1, f) {} fun g(a, aa) {}");
    }

    private static void statements() {
        Bench.says("STATEMENT: BLOCK / let NAME \"=\" E \";\" / if \"(\" E \")\" BLOCK [ else BLOCK ]");
        Bench.fault("let a;", 5);
        Bench.fault("let 1 = 1;", 4);
        Bench.fault("let a.b = 1;", 5);
        Bench.fault("let a == 1;", 6);
        Bench.fault("let a = ;", 8);
        Bench.fault("if 1 {}", 3);
        Bench.fault("if () {}", 4);
        Bench.fault("if (1) a;", 7);
        Bench.fault("if (1, 2) {}", 5);
        Bench.fault("if (a = 1) {}", 6);
        Bench.fault("else {}", 0);
        Bench.fault("if (1) {} else a;", 15);
        Bench.fault("if (1) {} else if (1) {}", 15);
        Bench.fault("if (1) {} else {} else {}", 18);
        Bench.fault("if (1) {} a; else {}", 13);
        Bench.says("while \"(\" E \")\" BLOCK / return [ E ] \";\" / abort \";\" / print E \";\" / E [ \"=\" E ] \";\"");
        Bench.fault("while 1 {}", 6);
        Bench.fault("while () {}", 7);
        Bench.fault("while (1) ;", 10);
        Bench.fault("while (0) {} else {}", 13);
        Bench.fault("return return;", 7);
        Bench.fault("return 1, 2;", 8);
        Bench.fault("return }", 7);
        Bench.fault("abort 1;", 6);
        Bench.fault("abort()", 5);
        Bench.fault("print;", 5);
        Bench.fault("print 1 2;", 8);
        Bench.fault("a }", 2);
        Bench.fault("a b;", 2);
    }

    private static void blocks() {
        Bench.says("BLOCK: \"{\" { STATEMENT } \"}\".");
        Bench.output("{}", "");
        Bench.output("{ print 1; }", "1\n");
        Bench.output("{ print 1; { print 2; } print 3; } print 4;", "1\n2\n3\n4\n");
        Bench.output("if (1) {} else { print 1; } while (0) { print 2; }", "");
        Bench.error("{" + Bench.times(749, "a;") + "}", 0);
        Bench.fault("{", 1);
        Bench.fault("{ a }", 4);
        Bench.fault("{ ; }", 2);
        Bench.fault("{ a; ]", 5);
    }

    private static void assignments() {
        Bench.says("where the first E, if \"=\" is there, is a NAME, or an ATOM alone with what is behind it,"
                + " and ends with a \".\" NAME or \"[\" E \"]\"");
        Bench.error("a = [[1], {}]; a[0] = 2; a[1].b = 3; a[1].b = {c: [4]}; a[1].b.c[0] = 5;", 0);
        Bench.error("(a) .b;", 2);
        Bench.error("a = [[1]]; (a)[0] = 2; [1][0] = 2; push(a, 3)[1] = 4; a[0 + 1] = 1;", 0);
        Bench.error("fun f() { return {}; } f().x = 1; ({a: 1}).a = 2; [{}][0].b = 3;", 0);
        Bench.error("a = [[1]]; pop(a)[0] = 2; (a && [1])[0] = 3;", 0);
        Bench.noFault("1 .a = 2;");
        Bench.noFault("nil[0] = 2;");
        Bench.noFault("\"x\"[0] = 2;");
        Bench.noFault("size(a).b = 2;");
        String[] others = {"1", "nil", "\"x\"", "(a)", "((a))", "(a.b)", "(a[0])", "f()", "f(a)", "size(a)",
            "push(a.b, c.d)", "pop(a)", "[1]", "[a]", "-a", "!a", "-a.b", "!a[1]", "- -a.b", "a + b", "a + b.c",
            "a.b + c", "a.b + c.d", "a * b.c", "a && b.c", "a || b[0]", "a == b.c", "a.b == c[0]", "a < b.c",
            "a.b || c", "a - b"};
        for (String other : others) {
            Bench.noFault(other + ";");
            Bench.fault(other + " = 2;", other.length() + 1);
        }
        Bench.fault("a = b = c;", 6);
        Bench.fault("a.b = c.d = e;", 10);
        Bench.fault("print a = 2;", 8);
        Bench.fault("return a = 2;", 9);
        Bench.fault("let a = b = 2;", 10);
        Bench.fault("f(a = 1);", 4);
    }

    private static void levels() {
        Bench.says("E, by levels, the later the tighter, each from the left: || ; && ; == != < <="
                + " (one at most) ; + - ; * / % ; then - E, ! E; then ATOM");
        Bench.result("return 1 || 0 && 0;", 1);
        Bench.result("return (1 || 0) && 0;", 0);
        Bench.result("return 0 && 0 || 1;", 1);
        Bench.result("return 2 && 0 == 0;", 1);
        Bench.result("return 0 == 0 && 2;", 2);
        Bench.result("return 1 == 2 || 3;", 3);
        Bench.result("return 1 + 2 == 3;", 1);
        Bench.result("return 1 < 2 + 3;", 1);
        Bench.result("return 5 != 2 + 3;", 0);
        Bench.result("return 4 + 1 <= 5;", 1);
        Bench.result("return 2 + 3 * 4 - 10 / 5;", 12);
        Bench.result("return 10 + 7 % 4;", 13);
        Bench.result("return 10 - 3 - 2;", 5);
        Bench.result("return 10 - 3 + 2;", 9);
        Bench.result("return 100 / 10 / 2;", 5);
        Bench.result("return 100 / 10 * 2;", 20);
        Bench.result("return 100 % 7 * 2 % 3;", 1);
        Bench.result("return 17 % 10 / 2;", 3);
        Bench.result("return -7 % 4;", -3);
        Bench.result("return -2 * -3 - -4;", 10);
        Bench.result("return 2 * -3;", -6);
        Bench.result("return --5;", 5);
        Bench.result("return -!0;", -1);
        Bench.result("return !-0;", 1);
        Bench.result("return !0 + 1;", 2);
        Bench.result("return !1 == 0;", 1);
        Bench.result("return -[3][0];", -3);
        Bench.result("return -{a: 4}.a;", -4);
        Bench.result("return ![0][0];", 1);
        Bench.result("return {a: [1, {b: 6}]}.a[1].b;", 6);
    }

    private static void compareOnce() {
        Bench.says("== != < <= (one at most)");
        String[] signs = {"==", "!=", "<", "<="};
        for (String first : signs) {
            Bench.noFault("a " + first + " b;");
            for (String second : signs) {
                Bench.fault("a " + first + " b " + second + " c;", 5 + first.length());
                Bench.noFault("(a " + first + " b) " + second + " c;");
                Bench.noFault("a " + first + " (b " + second + " c);");
                Bench.noFault("a " + first + " b && c " + second + " d;");
                Bench.noFault("a " + first + " b || c " + second + " d;");
            }
        }
    }

    private static void atoms() {
        Bench.says("ATOM: NUMBER, TEXT, nil, NAME, NAME \"(\" [ E { \",\" E } ] \")\"");
        Bench.fault("f(1,);", 4);
        Bench.fault("f(,);", 2);
        Bench.fault("f(1 2);", 4);
        Bench.fault("f(1;", 3);
        Bench.fault("f()();", 3);
        Bench.fault("a.f(1);", 3);
        Bench.fault("a[0](1);", 4);
        Bench.fault("(f)(1);", 3);
        Bench.fault("a.1;", 2);
        Bench.fault("a.\"b\";", 2);
        Bench.fault("a[];", 2);
        Bench.fault("a[1, 2];", 3);
        Bench.says("size \"(\" E \")\", push \"(\" E \",\" E \")\", pop \"(\" E \")\", \"(\" E \")\"");
        Bench.fault("size;", 4);
        Bench.fault("size();", 5);
        Bench.fault("size(1, 2);", 6);
        Bench.fault("size = 1;", 5);
        Bench.fault("push();", 5);
        Bench.fault("push(1);", 6);
        Bench.fault("push(1, 2, 3);", 9);
        Bench.fault("pop 1;", 4);
        Bench.fault("pop();", 4);
        Bench.fault("pop(1, 2);", 5);
        Bench.fault("();", 1);
        Bench.fault("(1;", 2);
        Bench.fault("(1, 2);", 2);
        Bench.fault("(1];", 2);
        Bench.says("a RECORD \"{\" [ NAME \":\" E { \",\" NAME \":\" E } ] \"}\", a ROW \"[\" [ E { \",\" E } ] \"]\"");
        Bench.fault("a = {b};", 6);
        Bench.fault("a = {1: 2};", 5);
        Bench.fault("a = {\"b\": 2};", 5);
        Bench.fault("a = {b: 2,};", 10);
        Bench.fault("a = {,};", 5);
        Bench.fault("a = {b = 2};", 7);
        Bench.fault("a = {b: };", 8);
        Bench.fault("a = {b: 1 c: 2};", 10);
        Bench.fault("a = {b: 1];", 9);
        Bench.fault("[1,];", 3);
        Bench.fault("[,];", 1);
        Bench.fault("[1 2];", 3);
        Bench.fault("[1);", 2);
        Bench.fault("1 +;", 3);
        Bench.fault("* 1;", 0);
        Bench.fault("+ 1;", 0);
        Bench.fault("!;", 1);
    }

    private static void noRecordFirst() {
        Bench.says("A STATEMENT does not begin with a RECORD.");
        Bench.fault("{};", 2);
        Bench.fault("{a: 1};", 2);
        Bench.fault("{a: 1}.a;", 2);
        Bench.fault("{}.a = 1;", 2);
        Bench.noFault("{ a; }");
        Bench.noFault("({});");
        Bench.noFault("({}).a = 1;");
        Bench.result("return {a: 1}.a;", 1);
        Bench.output("print {};", "r\n");
    }

    private static final String DEEP = "BLOCKS, brackets of all kinds, and - ! before E lie in one another"
            + " at most 16 deep (the token itself is too deep)";

    /** Every kind of E that lies in another, within every kind: "#" stands for what is inside. */
    private static void depthOfKinds() {
        Bench.says(DEEP);
        String[] kinds = {"(#)", "f(#)", "f(1,#)", "f(#,1)", "size(#)", "pop(#)", "push(#,1)", "push(1,#)", "[#]",
            "[1,#]", "a[#]", "{a:#}", "{a:1,b:#}", "-#", "!#"};
        String[] before = {"a=", "let a=", "print ", "return ", "", "a[0]="};
        int next = 0;
        for (String outer : kinds) {
            for (String inner : kinds) {
                // Which bracket of the inner one it is that lies deeper than what is around it.
                int own = inner.indexOf('(') >= 0 ? inner.indexOf('(') : inner.indexOf('[') >= 0
                        ? inner.indexOf('[') : 0;
                String start = before[next % before.length];
                start = start.isEmpty() && outer.charAt(0) == '{' ? "a=" : start;
                next++;
                Bench.noFault(start + nested(outer, 14, inner) + ";");
                Bench.noFault(start + nested(outer, 15, inner) + ";");
                String deeper = start + nested(outer, 16, "@").split("@")[0];
                Bench.fault(start + nested(outer, 16, inner) + ";", deeper.length() + own);
            }
        }
    }

    /** The brackets of if and while lie around their E, not around their BLOCKS. */
    private static void depthOfConditions() {
        Bench.says(DEEP);
        for (String start : new String[] {"if (", "while (", "if (0) {} if (", "{} while ("}) {
            for (int many = 14; many <= 16; many++) {
                String text = start + Bench.times(many, "(") + "0" + Bench.times(many, ")") + ") {}";
                if (many < 16) {
                    Bench.noFault(text);
                } else {
                    Bench.fault(text, start.length() + 15);
                }
            }
            String deep = Bench.times(15, "(") + "1" + Bench.times(15, ")");
            Bench.noFault(start + "0) {" + deep + ";}");
            Bench.fault(start + "0) {-" + deep + ";}", start.length() + 5 + 14);
        }
    }

    private static String nested(String outer, int many, String inner) {
        int hole = outer.indexOf('#');
        return Bench.times(many, outer.substring(0, hole)) + inner.replace("#", "1")
                + Bench.times(many, outer.substring(hole + 1));
    }

    /** BLOCKS of every kind, with statements in them whose "#" is not there: what lies deeper is. */
    private static void depthOfStatements() {
        Bench.says(DEEP);
        String[] outers = {"{#}", "if(1){#}", "if(1){}else{#}", "while(0){#}", "{a;#}", "{#b;}"};
        String[] inners = {"#{}", "if#(1){}", "while#(0){}", "a=#(1);", "a=#-1;", "a=#!1;", "#[1];", "a=#{};",
            "a#[0];", "a#[0]=1;", "f#();", "let a=#(1);", "print #[1];", "return #-1;", "a=size#(a);", "#-1;"};
        for (String outer : outers) {
            for (String inner : inners) {
                int hole = outer.indexOf('#');
                String flat = inner.replace("#", "");
                for (int many = 14; many <= 16; many++) {
                    String before = Bench.times(many, outer.substring(0, hole));
                    String text = before + flat + Bench.times(many, outer.substring(hole + 1));
                    if (many < 16) {
                        Bench.noFault(text);
                    } else {
                        Bench.fault(text, before.length() + inner.indexOf('#'));
                    }
                }
            }
        }
        Bench.noFault("fun f(a) " + Bench.times(15, "{") + Bench.times(15, "}"));
        Bench.noFault("fun f(a) " + Bench.times(16, "{") + Bench.times(16, "}"));
        Bench.fault("fun f(a) " + Bench.times(17, "{") + Bench.times(17, "}"), 25);
        Bench.noFault("fun f(a) {" + Bench.times(15, "(") + "1" + Bench.times(15, ")") + ";}");
        Bench.fault("fun f(a) {" + Bench.times(16, "(") + "1" + Bench.times(16, ")") + ";}", 25);
        Bench.fault(Bench.times(17, "{"), 16);
        Bench.fault(Bench.times(100, "("), 16);
    }

    /** What is closed, or stands beside, is not around: 16 deep again and again. */
    private static void depthBehind() {
        Bench.says(DEEP);
        String deep = Bench.times(16, "(") + "1" + Bench.times(16, ")");
        Bench.noFault("return " + deep + " + " + deep + " * " + deep + " == " + deep + ";");
        Bench.noFault("{}" + deep + "; if (1) {} else {} " + deep + ";");
        Bench.noFault("fun f(a) {} " + deep + "; fun g() {} a = -1; " + deep + ";");
        Bench.noFault("return " + Bench.times(16, "-") + "1 - 1 - 1 + " + Bench.times(16, "!") + "1;");
        Bench.noFault("return " + Bench.times(40, "-1 + ") + "1;");
        Bench.noFault("return a" + Bench.times(40, "[0]") + Bench.times(40, ".a") + ";");
        Bench.noFault(Bench.times(300, "(1);"));
        Bench.noFault(Bench.times(300, "{}"));
        Bench.noFault("return [" + Bench.list(60, "[1]") + "];");
        Bench.fault("return -a" + Bench.times(20, "[0]") + "[" + Bench.times(14, "(") + "(1;",
                9 + 60 + 1 + 14);
    }

    private static void places() {
        Bench.says("FAULT of a text: the place of the first token that can not stand there (for what is too"
                + " deep, too many, a NAME twice in NAMES: its own; an \"=\" behind another E)");
        Bench.fault("  a b c d", 4);
        Bench.fault("a b \"", 2);
        Bench.fault("a abcdefghi", 2);
        Bench.fault("a = 1; b = = 2; @", 11);
        Bench.fault(Bench.times(17, "(") + "@", 16);
        Bench.fault("fun f(a, a, @", 9);
        Bench.fault("fun f(a, b, c, d, e, @", 18);
        Bench.fault("1 = @", 2);
        Bench.fault("a; 1 = = 2", 5);
        Bench.says("or of the first byte that begins none (of what is too long or great, or a TEXT without its"
                + " second \", its first)");
        Bench.fault("a = @ b c", 4);
        Bench.fault("a = 1; #", 7);
        Bench.fault("a = 1 & 2;", 6);
        Bench.fault("a = 1 | 2;", 6);
        Bench.fault("a = 1 > 2;", 6);
        Bench.fault("a = \200;", 4);
        Bench.fault("a = \377;", 4);
        Bench.fault("a = abcdefghi b;", 4);
        Bench.fault("a = 2147483648 b;", 4);
        Bench.fault("a = \"abcdefghijklmnopq\" b;", 4);
        Bench.fault("a = \"abc b;", 4);
        Bench.fault("a = \"ab\nc\" b;", 4);
    }

    private static void placeOfEnd() {
        Bench.says("or of the end if something is missing");
        Bench.fault("a", 1);
        Bench.fault("a  ", 3);
        Bench.fault("a +\n", 4);
        Bench.fault("{ a = 1; ", 9);
        Bench.fault("fun f() {", 9);
        // The last places that a text can have.
        Bench.fault(Bench.times(749, "a;") + "a@", 1499);
        Bench.fault(Bench.times(749, "a;") + "aa", 1500);
        Bench.fault(Bench.times(749, "a;") + "a", 1499);
        Bench.error(Bench.times(749, "a;") + "a;", 0);
    }
}
