/** Promise 4: the ERRORS of programs, the bounds, FUEL, and that all is as before then. */
final class ErrorTest {
    public static void main(String[] args) {
        fuel();
        sorts();
        bounds();
        order();
        functionBounds();
        asBefore();
        Bench.finish();
    }

    private static void fuelOf(String text, int fuel, int want, int taken) {
        Bench b = new Bench();
        Bench.due("run of " + text, b.run(text, fuel), want);
        Bench.due("fuel of " + text, b.x.count(7), taken);
    }

    private static void fuel() {
        fuelOf("", 0, 0, 0);
        fuelOf("{ {} }", 0, 0, 0);
        fuelOf("a;", 0, 1, 0);
        fuelOf("fun f() { a; }", 0, 0, 0);
        fuelOf("a; b;", 2, 0, 2);
        fuelOf("a; b; c;", 2, 1, 2);
        fuelOf("if (1) { a; } else { b; c; }", 9, 0, 2);
        fuelOf("if (0) { a; } else { b; c; }", 9, 0, 3);
        fuelOf("let i = 0; while (i < 3) { i = i + 1; }", 100, 0, 8);
        fuelOf("while (0) { }", 1, 0, 1);
        fuelOf("while (1) { }", 2000, 1, 2000);
        fuelOf("fun f() { } f();", 2, 0, 2);
        fuelOf("fun f() { } f();", 1, 1, 1);
        fuelOf("fun f() { return 1; } return f() + f();", 5, 0, 5);
        fuelOf("size([]); push([], 1); pop([1]);", 3, 0, 3);
        fuelOf("a; abort; b;", 9, 10, 2);
        fuelOf("return 1; a;", 9, 0, 1);
        fuelOf("f();", 9, 6, 2);
        fuelOf("fun f() { f(); } f();", 1000, 7, 18);
    }

    private static void sorts() {
        String[] wrong = {"1 + \"a\"", "\"a\" + 1", "nil + 1", "[] + []", "\"a\" - \"a\"", "nil * 1",
            "\"4\" / 2", "{} % 2", "-nil", "-\"a\"", "-[]", "1 < nil", "1 < \"a\"", "\"a\" <= 1",
            "[] < []", "nil <= nil", "nil.a", "1 .a", "\"a\".a", "[].a", "nil[0]", "1[0]", "{}[0]",
            "[1][nil]", "[1][\"0\"]", "\"a\"[nil]", "\"a\"[[]]", "size(nil)", "size(1)",
            "push(nil, 1)", "push({}, 1)", "push(\"a\", 1)", "pop({})", "pop(\"a\")", "pop(1)",
            "nil / 0", "1 / nil", "nil[9]", "{}[\"a\"]"};
        for (String e : wrong) {
            Bench.error("return " + e + ";", 2);
        }
        for (String s : new String[] {"nil.a = 1;", "[].a = 1;", "\"a\".a = 1;", "1 .a = 1;",
            "\"a\"[0] = 1;", "\"a\"[7] = 1;", "nil[0] = 1;", "a = {}; a[0] = 1;",
            "[1][nil] = 1;", "[1][\"a\"] = 1;"}) {
            Bench.error(s, 2);
        }
    }

    private static void bounds() {
        Bench.error("[][0];", 3);
        Bench.error("[1][1];", 3);
        Bench.error("[1][-1];", 3);
        Bench.error("[1][2147483647];", 3);
        Bench.error("[1][1] = 1;", 3);
        Bench.error("[1][-1] = 1;", 3);
        Bench.error("\"abc\"[3];", 3);
        Bench.error("\"\"[0];", 3);
        Bench.error("\"abc\"[-1];", 3);
        Bench.error("\"abcdefghijklmnop\"[16];", 3);
        Bench.error("pop([]);", 3);
        Bench.error("\"abcdefgh\" + \"abcdefghi\";", 4);
        Bench.error("a = [" + Bench.times(19, "1,") + "1]; push(a, 1);", 4);
        Bench.error("[" + Bench.times(20, "1,") + "1];", 4);
        Bench.error("return {a:1,b:1,c:1,d:1,e:1,f:1,g:1,h:1,i:1};", 4);
        Bench.error("a = {a:1,b:1,c:1,d:1,e:1,f:1,g:1,h:1}; a.i = 1;", 4);
        Bench.error("1 / 0;", 5);
        Bench.error("1 % 0;", 5);
        Bench.error("fun f(a) {} f();", 6);
        Bench.error("fun f(a) {} f(1, 2);", 6);
        Bench.error("f(1, 2, 3, 4, 5, 6);", 6);
        Bench.error("a = 1; a();", 6);
        Bench.error("abort;", 10);

        Bench b = new Bench();
        b.runs("a=1;b=1;c=1;d=1;e=1;f=1;g=1;h=1;i=1;j=1;k=1;l=1;", 0);
        b.counts(1, 12);
        b.runs("m = 1;", 8);
        b.runs("m = nil;", 0);
        b.runs("l = 2;", 0);
        b.runs("a = nil; m = 1;", 0);
        b.runs("fun f() { let n = 1; return n; } let o = f(); o = 3;", 0);
        b.counts(1, 12);

        Bench c = new Bench();
        String fill = "let i = 0; while (i < 100) { []; i = i + 1; }";
        c.runs(fill, 0);
        c.counts(0, 100);
        c.runs("{};", 102);
        c.runs("return {};", 8);
        c.runs("return 1;", 0);
        c.runs("return [" + Bench.times(20, "1,") + "1];", 8);
        c.runs("return [1 / 0];", 5);
        Bench.due("sweep", c.x.sweep(), 100);
        c.runs("return [" + Bench.times(20, "1,") + "1];", 4);
    }

    /** Which ERROR comes first when several could. */
    private static void order() {
        Bench.error("nil - f();", 6);
        Bench.error("nil.a = f();", 6);
        Bench.error("nil[1 / 0] = f();", 5);
        Bench.error("[1][nil] = f();", 6);
        Bench.error("nil[f()];", 6);
        Bench.error("push(nil, f());", 6);
        Bench.error("f(1 / 0);", 5);
        Bench.error("g(f(), 1 / 0);", 6);
        Bench.error("{ a = {b: 1 / 0, c: f()}; }", 5);
        Bench.error("nil < f();", 6);
        // The FUEL of a call comes ahead of its FUNCTION, that ahead of the depth.
        Bench b = new Bench();
        Bench.due("no fuel for the call", b.run("f();", 1), 1);
        Bench.error("fun f(n) { if (n == 7) { f(); } f(n + 1); } f(0);", 6);
        Bench.error("fun f(n) { if (n == 7) { f(1 / 0); } f(n + 1); } f(0);", 5);
        Bench.due("no fuel at the depth", b.run("fun f() { f(); } f();", 17), 1);
        Bench.due("the depth", b.run("fun f() { f(); } f();", 18), 7);
    }

    private static void functionBounds() {
        Bench b = new Bench();
        StringBuilder ten = new StringBuilder();
        for (char c = 'a'; c < 'k'; c++) {
            ten.append("fun ").append(c).append("() {} ");
        }
        b.runs(ten.toString(), 0);
        b.counts(2, 10);
        b.counts(3, 20);
        b.runs("print 1;", 0);
        Bench.due("an eleventh", b.run("print 1; fun k() {}", 0), 8);
        Bench.due("out", b.out(), "");
        b.counts(7, 0);
        b.counts(2, 10);
        b.runs("fun j() { return 1; }", 0);
        b.counts(2, 10);
        b.counts(3, 23);

        String body = Bench.times(199, "a;");
        Bench c = new Bench();
        c.runs("fun f() {" + body + "}", 0);
        c.counts(3, 400);
        c.runs("fun g() {}", 8);
        c.runs("fun f() {" + body + "a;}", 8);
        c.runs("fun f() {" + Bench.times(198, "a;") + "-a;}", 8);
        c.runs("fun f() {" + body + "{}a;} fun f() {}", 8);
        c.counts(3, 400);
        c.runs("fun f() {} fun g() {}", 0);
        c.counts(3, 4);
        c.runs("fun g() {" + Bench.times(198, "a;") + "}", 0);
        c.counts(3, 400);
        // The bounds are looked at behind each, not behind all.
        c.runs("fun h() {} fun g() {}", 8);
        c.runs("fun g() {} fun h() {}", 0);
        c.counts(2, 3);
        c.counts(3, 6);
    }

    private static void asBefore() {
        Bench b = new Bench();
        b.runs("a = {p: 1}; b = [1, 2]; fun f() { return 1; }", 0);
        b.runs("a.p = 2; a.q = 3; push(b, 3); b[0] = 9; c = {}; a = nil; fun f() { return 2; }"
                + " fun g() {} print f(); abort;", 10);
        Bench.due("out", b.out(), "2\n");
        Bench.due("value", b.x.value(), Bench.NIL);
        b.counts(0, 2);
        b.counts(1, 2);
        b.counts(2, 1);
        b.counts(3, 5);
        b.counts(6, 1);
        b.gives("return a.p * 1000 + size(a) * 100 + size(b) * 10 + b[0];", 1121);
        b.gives("return f();", 1);
    }
}
