/** Promise 4: the FAULT of a text. */
final class FaultTest {
    public static void main(String[] args) {
        tokens();
        statements();
        functions();
        assignments();
        depth();
        nothingIsDone();
        Bench.finish();
    }

    private static void tokens() {
        Bench.fault("abcdefgh; abcdefghi;", 10);
        Bench.fault("a1234567 = 1; a12345678 = 1;", 14);
        Bench.error("a = 2147483647;", 0);
        Bench.fault("a = 2147483648;", 4);
        Bench.fault("a = 99999999999999999999999999;", 4);
        Bench.result("return 000000000000000000007;", 7);
        Bench.error("\"abcdefghijklmnop\";", 0);
        Bench.fault(" \"abcdefghijklmnopq\";", 1);
        Bench.fault("a = \"abc", 4);
        Bench.fault("a = \"a\nb\";", 4);
        Bench.fault("a = \"a\177b\";", 4);
        Bench.fault("a = \"a\037b\";", 4);
        Bench.error("a = \" ~!\";", 0);
        Bench.fault("a = 1 & 2;", 6);
        Bench.fault("a = 1 | 2;", 6);
        Bench.fault("a = 1 > 2;", 6);
        Bench.fault("A = 1;", 0);
        Bench.fault("a\t= 1;", 1);
        Bench.fault("a = 1;\r", 6);
        Bench.fault("a = 1; #", 7);
        Bench.fault("a = 1_0;", 5);
        Bench.error("\n\n a\n=\n1 ;  \n", 0);
        Bench.fault("a === 1;", 4);
        Bench.fault("1a;", 1);
        Bench.fault("a  ", 3);
        // The first FAULT counts, whichever sort it is of.
        Bench.fault("a b \"", 2);
        Bench.fault("a + \" b c", 4);
    }

    private static void statements() {
        Bench.fault(";", 0);
        Bench.fault("}", 0);
        Bench.fault("else {}", 0);
        Bench.fault("let fun = 1;", 4);
        Bench.fault("if (1) {} else if (1) {}", 15);
        Bench.fault("while () {}", 7);
        Bench.fault("return 1", 8);
        Bench.fault("abort", 5);
        Bench.fault("print 1 2;", 8);
        Bench.fault("{ a = 1; ", 9);
        Bench.fault("{ fun f() {} }", 2);
        Bench.fault("{a: 1}.a;", 2);
        Bench.fault("a < b < c;", 6);
        Bench.fault("a == b != c;", 7);
        Bench.error("(1 < 2) == 1 && 3 <= 3;", 0);
        Bench.fault("a.1;", 2);
        Bench.fault("a.size;", 2);
        Bench.fault("a[];", 2);
        Bench.fault("a.f(1);", 3);
        Bench.fault("f()();", 3);
        Bench.fault("f(1,);", 4);
        Bench.fault("f(,);", 2);
        Bench.fault("[1,];", 3);
        Bench.fault("[1 2];", 3);
        Bench.fault("a = {b};", 6);
        Bench.fault("a = {1: 2};", 5);
        Bench.fault("a = {b: 2,};", 10);
        Bench.fault("a = {b = 2};", 7);
        Bench.fault("size();", 5);
        Bench.fault("size(1, 2);", 6);
        Bench.fault("size;", 4);
        Bench.fault("push(1);", 6);
        Bench.fault("push(1, 2, 3);", 9);
        Bench.fault("pop 1;", 4);
        Bench.fault("();", 1);
        Bench.fault("(1;", 2);
        Bench.fault("1 +;", 3);
        Bench.fault("* 1;", 0);
        Bench.fault("!;", 1);
    }

    private static void functions() {
        Bench.fault("fun", 3);
        Bench.fault("fun 1() {}", 4);
        Bench.fault("fun pop() {}", 4);
        Bench.fault("fun f {}", 6);
        Bench.fault("fun f(a b) {}", 8);
        Bench.fault("fun f(a,) {}", 8);
        Bench.fault("fun f(1) {}", 6);
        Bench.error("fun f(a, b, c, d) {}", 0);
        Bench.fault("fun f(a, b, c, d, e) {}", 18);
        Bench.fault("fun f(a, b, c, d, ) {}", 18);
        Bench.fault("fun f(a, b, a) {}", 12);
        Bench.fault("fun f(a, a, 1) {}", 9);
        Bench.fault("fun f() a;", 8);
        Bench.fault("fun f() {", 9);
        Bench.fault("fun f() { fun g() {} }", 10);
        Bench.error("fun f() {} fun f(a, b) {}", 0);
    }

    private static void assignments() {
        Bench.fault("1 = 2;", 2);
        Bench.fault("nil = 2;", 4);
        Bench.fault("a = b = c;", 6);
        Bench.fault("-a = 2;", 3);
        Bench.fault("-a.b = 2;", 5);
        Bench.fault("!a[1] = 2;", 6);
        Bench.fault("a + b.c = 2;", 8);
        Bench.fault("a.b + c = 2;", 8);
        Bench.fault("a && b.c = 2;", 9);
        Bench.fault("(a.b) = 2;", 6);
        Bench.fault("[1] = 2;", 4);
        Bench.fault("size(a) = 2;", 8);
        Bench.fault("push(a.b, c.d) = 2;", 15);
        Bench.fault("f(a) = 2;", 5);
        Bench.fault("print a = 2;", 8);
        Bench.error("a = [[1]]; (a)[0] = 2; [1][0] = 2; push(a, 3)[1] = 4; a[0 + 1] = 1;", 0);
    }

    private static void depth() {
        Bench.error(Bench.times(16, "{") + Bench.times(16, "}"), 0);
        Bench.fault(Bench.times(17, "{") + Bench.times(17, "}"), 16);
        Bench.error("a = " + Bench.times(16, "(") + "1" + Bench.times(16, ")") + ";", 0);
        Bench.fault("a = " + Bench.times(17, "(") + "1" + Bench.times(17, ")") + ";", 20);
        Bench.error("a = " + Bench.times(16, "-") + "1;", 0);
        Bench.fault("a = " + Bench.times(17, "-") + "1;", 20);
        Bench.fault("a = " + Bench.times(8, "!-") + "!1;", 20);
        Bench.fault("a = " + Bench.times(16, "-") + "(1);", 20);
        Bench.fault("a = " + Bench.times(16, "!") + "a[1];", 21);
        Bench.error("a = [1]; a = " + Bench.times(15, "!") + "a[0] + (1);", 0);
        Bench.fault("a = " + Bench.times(16, "[") + "f()" + Bench.times(16, "]") + ";", 21);
        Bench.fault("a = " + Bench.times(16, "[") + "{}" + Bench.times(16, "]") + ";", 20);
        Bench.fault(Bench.times(16, "{") + "if (1) {}", 19);
        Bench.fault(Bench.times(16, "{") + "size(a);", 20);
        Bench.fault(Bench.times(15, "{") + "if (1) { -a; }", 24);
        Bench.error(Bench.times(15, "{") + "if (1) { a = 2 - 1; }" + Bench.times(15, "}"), 0);
        Bench.error("fun f(a) " + Bench.times(16, "{") + Bench.times(16, "}"), 0);
        Bench.fault("fun f(a) " + Bench.times(17, "{") + Bench.times(17, "}"), 25);
        Bench.error(Bench.times(200, "(1);"), 0);
        // Each bracket counts for all that stands in it, and for nothing behind it.
        String deep = Bench.times(15, "(") + "1" + Bench.times(15, ")");
        String[] around = {"if (#) {}", "while (#) {}", "a = [0, #];", "f2(0, #);", "f2(#, 0);",
            "push([], #);", "push(#, 0);", "size(#);", "pop(#);", "b = [0][#];", "a = {p: #};",
            "a = {p: 0, q: #};", "a = -#;", "a = !#;", "(#);", "[0][#] = 1;"};
        for (String s : around) {
            int place = s.indexOf('#') + 15;
            Bench b = new Bench();
            int answer = b.run(s.replace("#", deep), 9);
            Bench.due("no FAULT in " + s, answer < 100 ? 1 : 0, 1);
            Bench.fault(s.replace("#", "(" + deep + ")"), place);
            answer = b.run(s.replace("#", "1") + "print " + deep + ";", 9);
            Bench.due("no FAULT behind " + s, answer < 100 ? 1 : 0, 1);
        }
    }

    private static void nothingIsDone() {
        Bench b = new Bench();
        b.runs("print 12; a = 1; return \"x\";", 0);
        b.runs("a = 2; fun f() {} print 3; return 4 5;", 136);
        b.roots("a", 1);
        b.counts(2, 0);
        b.counts(6, 1);
        b.counts(7, 3);
        Bench.due("out", b.out(), "12\n");
        Bench.due("value", b.x.value(), Bench.TEXT);
        Bench.due("out", b.out(), "x");
        b.type("a +");
        Bench.due("run(0) with a FAULT", b.x.run(0), 103);
    }
}
