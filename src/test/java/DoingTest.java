/** Terms: CALL, FUEL, OBJECTS, print, Assignment, FUNCTIONS, and how a PROGRAM is done. */
final class DoingTest {
    public static void main(String[] args) {
        orderOfCall();
        functionAsItIsThen();
        numberOfNames();
        ownLocals();
        returned();
        callsInOneAnother();
        fuelOfStatements();
        fuelOfWhile();
        fuelOfCalls();
        fuelAtBound();
        objectsAtMost();
        printed();
        outAtMost();
        aborted();
        orderOfAssignment();
        orderOfOthers();
        functionsAtMost();
        tokensAtMost();
        toldAgain();
        toldAhead();
        programs();
        allAsBefore();
        Bench.finish();
    }

    private static void orderOfCall() {
        Bench.says("CALL: E from the left, then FUEL, then the FUNCTION of that NAME as it is then");
        Bench.output("fun f(n) { print n; return n; } f(f(1) + f(2)); f(4) * f(5) - f(6);", "1\n2\n3\n4\n5\n6\n");
        Bench.output("fun p(n) { print n; } fun g(a, b, c, d) {} g(p(1), p(2), p(3), p(4));", "1\n2\n3\n4\n");
        Bench.error("f(1 / 0);", 5);
        Bench.error("g(f(), 1 / 0);", 6);
        Bench.error("g(1 / 0, f());", 5);
        new Bench().burns("f();", 1, 1, 1);
        new Bench().burns("f();", 2, 6, 2);
        new Bench().burns("f(1 / 0);", 1, 5, 1);
        new Bench().burns("fun f(a) {} f();", 1, 1, 1);
        new Bench().burns("fun f(a) {} f();", 2, 6, 2);
        new Bench().burns("fun f() { f(); } f();", 17, 1, 17);
        new Bench().burns("fun f() { f(); } f();", 18, 7, 18);
    }

    private static void functionAsItIsThen() {
        Bench.says("then the FUNCTION of that NAME as it is then (ERROR 6 if there is none");
        Bench b = new Bench();
        b.runs("fun g() { return h(); }", 0);
        b.runs("return g();", 6);
        b.gives("fun h() { return 1; } return g();", 1);
        b.gives("fun h() { return 2; } return g();", 2);
        b.gives("fun h() { return 3; } fun h() { return 4; } return g();", 4);
        b.gives("return g(); fun h() { return 5; }", 5);
        b.runs("fun h(a) { return 6; } return g();", 6);
        b.gives("return g();", 5);
        b.runs("a = 1; a();", 6);
        b.runs("let g = 1; return gg();", 6);
        b.gives("let g = 1; return g() + g;", 6);
    }

    private static void numberOfNames() {
        Bench.says("or it has another number of NAMES)");
        for (int names = 0; names <= 4; names++) {
            String head = "fun f(" + "a,b,c,d,".substring(0, 2 * names).replaceAll(",$", "") + ") { return 1; } ";
            for (int given = 0; given <= 6; given++) {
                Bench.error(head + "f(" + Bench.list(given, "1") + ");", given == names ? 0 : 6);
            }
        }
    }

    private static void ownLocals() {
        Bench.says("its LOCALS");
        Bench b = new Bench();
        b.gives("fun f(n) { let t = n * 10; if (n) { f(n - 1); } return t + n; } return f(7);", 77);
        b.gives("fun f(n) { if (n) { let t = n; f(n - 1); return t; } t = 9; return t; } return f(5);", 5);
        b.gives("fun f(a, b) { let c = 3; g(7); return a * 100 + b * 10 + c; } fun g(a) { let b = a; let c = b; }"
                + " let a = 8; let b = f(1, 2); return b * 10 + a;", 1238);
        b.counts(1, 0);
    }

    private static void returned() {
        Bench.says("what it returns, nil without");
        Bench.result("fun f() { return 7; } return f();", 7);
        Bench.result("fun f() { } return f();", Bench.NIL);
        Bench.result("fun f() { return; } return f();", Bench.NIL);
        Bench.result("fun f() { 7; } return f();", Bench.NIL);
        Bench.result("fun f(a) { if (a) { return 7; } } return f(0);", Bench.NIL);
        Bench.result("fun h() { return; } fun k() { } return h() == nil && k() == nil && h() == k();", 1);
        Bench.result("fun f(n) { while (1) { if (n) { return n; } n = 3; } } return f(0);", 3);
        Bench.output("fun f() { return 1; print 2; } f();", "");
        Bench.result("fun f() { return 1; } f(); return 2;", 2);
    }

    private static void callsInOneAnother() {
        Bench.says("at most 8 calls in one another (ERROR 7, before its BLOCK)");
        String down = "fun f(n) { print n; if (n) { return f(n - 1) + 1; } return 0; } ";
        Bench.result(down + "return f(6);", 6);
        Bench.result(down + "return f(7);", 7);
        Bench b = new Bench();
        b.runs(down + "return f(8);", 7);
        b.outIs("8\n7\n6\n5\n4\n3\n2\n1\n");
        // Behind one another, or within what is given, is not in one another.
        Bench.result(down + "return f(7) + f(7) + f(7);", 21);
        Bench.result("fun g(a) { return a + 1; } return " + Bench.times(15, "g(") + "0" + Bench.times(15, ")") + ";",
                15);
        Bench.result(down + "return f(f(7));", 7);
        Bench.error("fun f(n) { if (n == 7) { return g(); } return f(n + 1); } fun g() {} f(0);", 7);
        Bench.error("fun f(n) { if (n == 7) { return g(); } return f(n + 1); } f(0);", 6);
        Bench.error("fun f(n) { if (n == 7) { return f(); } return f(n + 1); } f(0);", 6);
        Bench.error("fun f(n) { if (n == 7) { return f(1 / 0); } return f(n + 1); } f(0);", 5);
        Bench.error("fun f() { g(); } fun g() { f(); } f();", 7);
    }

    private static void fuelOfStatements() {
        Bench.says("FUEL: each STATEMENT that is begun (BLOCKS are none)");
        new Bench().burns("", 0, 0, 0);
        new Bench().burns("{ {} {{}} }", 0, 0, 0);
        new Bench().burns("fun f() { a; }", 0, 0, 0);
        new Bench().burns("{ { a; } }", 1, 0, 1);
        for (String one : new String[] {"a;", "a = 1;", "let a = 1;", "print 1;", "return;", "return 1;",
            "if (0) { a; }", "if (1) { }", "if (1) { } else { a; b; }", "while (0) { a; }", "[1];"}) {
            new Bench().burns(one, 0, 1, 0);
            new Bench().burns(one, 1, 0, 1);
            new Bench().burns(one, 2000, 0, 1);
        }
        new Bench().burns("abort;", 0, 1, 0);
        new Bench().burns("abort;", 1, 10, 1);
        new Bench().burns("if (1) { a; } else { b; c; }", 9, 0, 2);
        new Bench().burns("if (0) { a; } else { b; c; }", 9, 0, 3);
        new Bench().burns("return 1; a;", 9, 0, 1);
        new Bench().burns("a; abort; b;", 9, 10, 2);
        new Bench().burns("size([]); push([], 1); pop([1]);", 3, 0, 3);
    }

    private static void fuelOfWhile() {
        Bench.says("each time the BLOCK of a while is begun");
        String loop = "let i = 0; while (i < 3) { i = i + 1; }";
        new Bench().burns(loop, 7, 1, 7);
        new Bench().burns(loop, 8, 0, 8);
        new Bench().burns(loop, 9, 0, 8);
        new Bench().burns("while (1) { }", 1, 1, 1);
        new Bench().burns("while (1) { }", 2000, 1, 2000);
        new Bench().burns("while (1) { return; }", 2, 1, 2);
        new Bench().burns("while (1) { return; }", 3, 0, 3);
        new Bench().burns("while (0) { }", 1, 0, 1);
    }

    private static void fuelOfCalls() {
        Bench.says("and each CALL is one");
        new Bench().burns("fun f() { } f();", 1, 1, 1);
        new Bench().burns("fun f() { } f();", 2, 0, 2);
        new Bench().burns("fun f() { return 1; } return f() + f();", 4, 1, 4);
        new Bench().burns("fun f() { return 1; } return f() + f();", 5, 0, 5);
        new Bench().burns("fun f(a) { } f(f(f(1)));", 3, 1, 3);
        new Bench().burns("fun f(a) { } f(f(f(1)));", 4, 0, 4);
        new Bench().burns("fun f() { } while (f()) { }", 2, 0, 2);
    }

    private static void fuelAtBound() {
        Bench.says("more than there is: ERROR 1");
        String most = "let i = 0; while (i < 499) { i = i + 1; { i; } i; }";
        new Bench().burns(most, 1997, 1, 1997);
        new Bench().burns(most, 1998, 0, 1998);
        new Bench().burns(most + "a;", 1999, 0, 1999);
        new Bench().burns(most + "a;b;", 1999, 1, 1999);
        new Bench().burns(most + "a;b;", 2000, 0, 2000);
        new Bench().burns(most + "a;b;c;", 2000, 1, 2000);
        // What comes behind the FUEL's end is not done.
        Bench b = new Bench();
        b.burns("print 1; print 2; a = 1; print 3;", 2, 1, 2);
        b.outIs("1\n2\n");
        b.roots("a", Bench.NIL);
    }

    private static void objectsAtMost() {
        Bench.says("More than 100 OBJECTS at once: ERROR 8 (those counted that are there, reached or not)");
        for (String made : new String[] {"[]", "({})", "a = []", "a = {b: a}"}) {
            for (int many = 99; many <= 101; many++) {
                Bench b = new Bench();
                b.runs("let i = 0; while (i < " + many + ") { " + made + "; i = i + 1; }", many > 100 ? 8 : 0);
                b.counts(0, many > 100 ? 0 : many);
            }
        }
        Bench b = new Bench();
        b.runs("let i = 0; while (i < 99) { []; i = i + 1; }", 0);
        b.runs("[];", 0);
        b.counts(0, 100);
        b.runs("return [];", 8);
        b.runs("return {};", 8);
        b.runs("return \"a\" + \"b\";", 0);
        b.counts(0, 100);
        Bench.due("sweep", b.sweep(), 100);
        b.runs("a = [{}];", 0);
        b.counts(0, 2);
        b.runs("let i = 0; while (i < 98) { push([], 1); i = i + 1; }", 0);
        b.counts(0, 100);
        b.runs("a[0].b = [];", 8);
        b.runs("a[0] = 1; a = nil; [];", 8);
        b.roots("a", Bench.ROW);
        Bench.due("sweep", b.sweep(), 98);
        b.counts(0, 2);
    }

    private static void printed() {
        Bench.says("print: ints in digits (- before), texts as they are, nil as n, RECORDS as r, ROWS as w:"
                + " and byte 10, to OUT, one after the other");
        Bench.output("print 0; print -1; print -12; print 9; print 10; print 99; print 100; print 1000000000;",
                "0\n-1\n-12\n9\n10\n99\n100\n1000000000\n");
        Bench.output("print 2147483647; print -2147483647; print -2147483647 - 1; print -1000000000;",
                "2147483647\n-2147483647\n-2147483648\n-1000000000\n");
        Bench.output("print \"\"; print \"a b\"; print \"~\"; print \"abcdefghijklmnop\"; print \"n\";",
                "\na b\n~\nabcdefghijklmnop\nn\n");
        Bench.output("print nil; print x; print {}; print {a: 1}; print []; print [1, 2];", "n\nn\nr\nr\nw\nw\n");
    }

    private static void outAtMost() {
        Bench.says("one beyond 600 is ERROR 9 (those before it stay)");
        String line = "print \"abcdefghijklmn\";";
        String full = Bench.times(39, line);
        // Each time 585 bytes, then what comes to 599, 600 and 601 and more.
        String[] last = {"print \"ABCDEFGHIJKLM\";", "print \"ABCDEFGHIJKLMN\";", "print \"ABCDEFGHIJKLMNO\";",
            "print \"ABCDEFGHIJKLMNOP\";", "print \"ABCDEFGHIJKLM\"; print \"\";",
            "print \"ABCDEFGHIJKLM\"; print 7;", "print \"ABCDEFGHIJKLM\"; print 78;",
            "print \"ABCDEFGHIJKLMN\"; print \"\";", "print \"ABCDEFGHIJKLMN\"; print nil;",
            "print \"ABCDEFGHIJK\"; print -12;", "print \"ABCDEFGHIJ\"; print -12;",
            "print \"ABCDEFGHIJKL\"; print {}; print 1;", "print \"ABCDEFGHIJKL\"; print []; print 1;"};
        String[] end = {"ABCDEFGHIJKLM\n", "ABCDEFGHIJKLMN\n", "ABCDEFGHIJKLMNO", "ABCDEFGHIJKLMNO",
            "ABCDEFGHIJKLM\n\n", "ABCDEFGHIJKLM\n7", "ABCDEFGHIJKLM\n7", "ABCDEFGHIJKLMN\n", "ABCDEFGHIJKLMN\n",
            "ABCDEFGHIJK\n-12", "ABCDEFGHIJ\n-12\n", "ABCDEFGHIJKL\nr\n", "ABCDEFGHIJKL\nw\n"};
        int[] error = {0, 0, 9, 9, 0, 9, 9, 9, 9, 9, 0, 9, 9};
        for (int i = 0; i < last.length; i++) {
            Bench b = new Bench();
            b.runs(full + last[i], error[i]);
            b.outEnds(585 + end[i].length(), end[i]);
        }
        Bench b = new Bench();
        b.burns("let i = 0; while (1) { print i; }", 2000, 9, 2 + 2 * 301);
        b.outEnds(600, "0\n0\n");
        // A byte too many is forgotten with the OUT that it was too many for.
        b.prints("print 1;", "1\n");
        b.gives("print 1; return \"abcdefghijklmnop\";", Bench.TEXT);
        b.outIs("abcdefghijklmnop");
    }

    private static void aborted() {
        Bench.says("abort: ERROR 10");
        Bench.error("abort;", 10);
        Bench.error("if (0) { abort; }", 0);
        Bench.error("if (1) { abort; }", 10);
        Bench.error("fun f() { abort; } f(); 1 / 0;", 10);
        Bench.error("1 / 0; abort;", 5);
        Bench.error("return; abort;", 0);
    }

    private static void orderOfAssignment() {
        Bench.says("Assignment: what stands before the last . or [ ], then what is in it, then the E behind =, then"
                + " what is checked of them.");
        Bench.output("fun f(n) { print n; return [0]; } f(1)[f(2)[0]] = f(3);", "1\n2\n3\n");
        Bench.output("fun f(n) { print n; return {}; } f(1).x = f(2);", "1\n2\n");
        Bench.output("fun f(n) { print n; return [[0]]; } f(1)[0][f(2) && 0] = f(3);", "1\n2\n3\n");
        Bench.error("nil.a = f();", 6);
        Bench.error("[].a = f();", 6);
        Bench.error("nil[1 / 0] = f();", 5);
        Bench.error("nil[0] = f();", 6);
        Bench.error("\"a\"[0] = f();", 6);
        Bench.error("[1][nil] = f();", 6);
        Bench.error("[1][1] = f();", 6);
        Bench.error("f()[1 / 0] = 1;", 6);
        Bench.error("a = {" + Bench.fields(8) + "}; a.z = f();", 6);
        // Before the last one, what is read is checked when it is found.
        Bench.error("nil.a.b = f();", 2);
        Bench.error("[][0][0] = f();", 3);
        // The ROW is looked at when all is found.
        Bench.error("a = [1]; a[0] = pop(a);", 3);
        Bench.error("a = []; a[0] = size(push(a, 5));", 0);
        Bench.result("a = []; a[0] = size(push(a, 5)); return a[0];", 1);
        Bench.result("a = {}; a.p = size(a); return a.p;", 0);
        Bench.result("a = {p: 1}; b = a; a.p = set(); fun set() { a = {p: 5}; return 2; } return b.p * 10 + a.p;",
                25);
    }

    private static void orderOfOthers() {
        Bench.says("Other sorts of VALUES than said: ERROR 2.");
        Bench.error("nil - f();", 6);
        Bench.error("f() - nil;", 6);
        Bench.error("nil < f();", 6);
        Bench.error("nil[f()];", 6);
        Bench.error("push(nil, f());", 6);
        Bench.error("nil / 0;", 2);
        Bench.error("0 / nil;", 2);
        Bench.error("[1][nil] + f();", 2);
        Bench.error("-nil + f();", 2);
        Bench.error("size(nil) + f();", 2);
        Bench.error("pop(1) + f();", 2);
        Bench.error("nil.a + f();", 2);
    }

    private static String functions(int many) {
        StringBuilder all = new StringBuilder();
        for (int i = 0; i < many; i++) {
            all.append("fun f").append(i).append("() {} ");
        }
        return all.toString();
    }

    private static void functionsAtMost() {
        Bench.says("FUNCTIONS: at most 10 (ERROR 8)");
        for (int many = 9; many <= 11; many++) {
            Bench b = new Bench();
            b.runs(functions(many), many > 10 ? 8 : 0);
            b.counts(2, many > 10 ? 0 : many);
        }
        Bench b = new Bench();
        b.runs(functions(9), 0);
        b.runs("fun f9() { return 9; }", 0);
        b.runs("fun f10() {}", 8);
        b.counts(2, 10);
        b.runs("fun f9() { return 8; } fun f0() { return 1; }", 0);
        b.counts(2, 10);
        b.gives("return f9() * 10 + f0();", 81);
        b.runs("f10();", 6);
    }

    /** A FUNCTION whose BLOCK has so many tokens. */
    private static String withTokens(String name, int tokens) {
        String odd = tokens % 2 == 1 ? "-a;" : "";
        int rest = tokens - 2 - (odd.isEmpty() ? 0 : 3);
        return "fun " + name + "() {" + odd + Bench.times(rest / 2, "a;") + "} ";
    }

    private static void tokensAtMost() {
        Bench.says("whose BLOCKS have at most 400 tokens together, { } with them (ERROR 8)");
        for (int tokens = 399; tokens <= 401; tokens++) {
            Bench b = new Bench();
            b.runs(withTokens("f", tokens), tokens > 400 ? 8 : 0);
            b.counts(3, tokens > 400 ? 0 : tokens);
            b.runs(withTokens("f", tokens - 200) + withTokens("g", 200), tokens > 400 ? 8 : 0);
            b.counts(3, tokens > 400 ? 0 : tokens);
        }
        Bench b = new Bench();
        b.runs(withTokens("f", 398), 0);
        b.runs(withTokens("g", 5), 8);
        b.counts(2, 1);
        b.runs("fun g(a, b, c, d) {}", 0);
        b.counts(3, 400);
        b.runs("fun h() {}", 8);
        b.counts(3, 400);
        // Each token is one, however long; NAMES and what stands before the BLOCK are none.
        b.runs("fun f(aaaa, bbbb) { return \"abc def\" == 2147483647 && aaaa[0].bbbb; }", 0);
        b.counts(3, 2 + 14);
    }

    private static void toldAgain() {
        Bench.says("one that is told again is another (also within one text: they are taken in their order, and both"
                + " bounds are looked at behind each)");
        Bench b = new Bench();
        b.gives("fun f() { return 1; } fun f(a) { return a; } return f(7);", 7);
        b.counts(2, 1);
        b.counts(3, 5);
        b.runs("f();", 6);
        b.runs(withTokens("f", 400), 0);
        b.runs(withTokens("f", 401) + withTokens("f", 2), 8);
        b.runs(withTokens("g", 2) + withTokens("f", 2), 8);
        b.counts(3, 400);
        b.runs(withTokens("f", 2) + withTokens("g", 2), 0);
        b.counts(3, 4);
        b.runs(withTokens("f", 398) + withTokens("f", 398) + withTokens("g", 2), 0);
        b.counts(3, 400);
        b.runs(withTokens("f", 399) + withTokens("f", 2), 8);
        Bench c = new Bench();
        c.runs(functions(10) + "fun f0() {} fun f9() {}", 0);
        c.counts(2, 10);
        c.runs("fun f0() {} fun x() {} fun f0() {}", 8);
        c.counts(2, 10);
    }

    private static void toldAhead() {
        Bench.says("they are there from the beginning of the program (their ERROR 8 comes ahead of the first"
                + " STATEMENT, with OUT empty, whatever the FUEL)");
        Bench.result("return f(); fun f() { return 5; }", 5);
        Bench b = new Bench();
        b.runs(functions(10) + "print 1; return 4;", 0);
        b.burns("print 1; a = 1 / 0; fun x() {}", 2000, 8, 0);
        Bench.due("octet(-1)", b.octet(-1), 0);
        Bench.due("value", b.value(), Bench.NIL);
        b.counts(2, 10);
        b.prints("print 1;", "1\n");
        b.burns("print 1; fun x() {}", 0, 8, 0);
        Bench.due("octet(-1)", b.octet(-1), 0);
        b.burns("fun f0() {} print 1;", 0, 1, 0);
        b.counts(6, 2);
    }

    private static void programs() {
        Bench.says("A PROGRAM is done from the first STATEMENT; return ends it; its VALUE is what that returns,"
                + " else nil.");
        Bench.result("return 1; return 2;", 1);
        Bench.result("{ { return 1; } } return 2;", 1);
        Bench.result("while (1) { if (1) { return 3; } }", 3);
        Bench.result("7;", Bench.NIL);
        Bench.result("", Bench.NIL);
        Bench.result("fun f() { return 1; }", Bench.NIL);
        Bench b = new Bench();
        b.gives("a = 1; return; a = 2;", Bench.NIL);
        b.roots("a", 1);
        b.prints("print 1; { print 2; } print 3;", "1\n2\n3\n");
    }

    private static void allAsBefore() {
        Bench.says("With an ERROR all is as before: ROOTS, OBJECTS, FUNCTIONS; OUT stays.");
        String[] last = {"while (1) {}", "1 + nil;", "b[9];", "push([" + Bench.list(20, "1") + "], 1);", "1 / 0;",
            "x();", "fun r() { r(); } r();", "while (1) { []; }", "while (1) { print 7; }", "abort;"};
        for (int i = 0; i < last.length; i++) {
            Bench b = new Bench();
            b.runs("a = {p: 1}; b = [1, 2]; fun f() { return 1; }", 0);
            b.runs("print 5; a.p = 2; a.q = 3; push(b, 3); b[0] = 9; c = {}; a = nil; fun f() { return 2; }"
                    + " fun g() {} print f();" + last[i], i + 1);
            Bench.due("octet(0)", b.octet(0), '5');
            Bench.due("octet(2)", b.octet(2), '2');
            Bench.due("value", b.value(), Bench.NIL);
            b.counts(0, 2);
            b.counts(1, 2);
            b.counts(2, 1);
            b.counts(3, 5);
            b.counts(4, 8 + 32 + 12 + 15);
            b.counts(6, 1);
            b.roots("c", Bench.NIL);
            b.gives("return a.p * 1000 + size(a) * 100 + size(b) * 10 + b[0];", 1121);
            b.gives("return f();", 1);
            b.runs("g();", 6);
        }
    }
}
