/** Promise 4: what programs do without an ERROR. */
final class LanguageTest {
    public static void main(String[] args) {
        reckoning();
        truth();
        texts();
        records();
        rows();
        locals();
        calls();
        printing();
        Bench.finish();
    }

    private static void reckoning() {
        Bench.result("return 2 + 3 * 4 - 5;", 9);
        Bench.result("return 10 - 3 - 2;", 5);
        Bench.result("return 100 / 7 / 2 * 3;", 21);
        Bench.result("return -2 * -3 - -4;", 10);
        Bench.result("return --5;", 5);
        Bench.result("return -(0 - 2147483647 - 1);", -2147483648L);
        Bench.result("return (0 - 2147483647 - 1) % -1;", 0);
        Bench.result("return -7 / 2;", -3);
        Bench.result("return -7 % 3;", -1);
        Bench.result("return 7 % -3;", 1);
        Bench.result("return 65536 * 65536;", 0);
        Bench.result("return 2147483647 * 3;", 2147483645);
        Bench.result("return 1 + 2 < 4;", 1);
    }

    private static void truth() {
        Bench.result("return 0 || 7;", 7);
        Bench.result("return 5 || f();", 5);
        Bench.result("return nil && f();", Bench.NIL);
        Bench.result("return 0 && f();", 0);
        Bench.result("return \"\" && 3;", 3);
        Bench.result("return {} && 4;", 4);
        Bench.result("return [] || 4;", Bench.ROW);
        Bench.result("return 0 || nil;", Bench.NIL);
        Bench.result("return 1 && 2 || 3;", 2);
        Bench.result("return 1 || 2 && 0;", 1);
        Bench.result("return !nil + !0 + !1 + !\"\" + ![];", 2);
        Bench.result("return !!7;", 1);
        Bench.result("return !1 == 0;", 1);
        Bench.result("return nil == nil;", 1);
        Bench.result("return nil == 0;", 0);
        Bench.result("return \"1\" != 1;", 1);
        Bench.result("return \"ab\" == \"a\" + \"b\";", 1);
        Bench.result("return {} == {};", 0);
        Bench.result("a = {}; b = [a]; return b[0] == a;", 1);
        Bench.result("a = {}; return a != a;", 0);
        Bench.result("return [] == {};", 0);
        Bench.result("return -1 < 0;", 1);
        Bench.result("return 3 < 3;", 0);
        Bench.result("return 3 <= 3;", 1);
        Bench.result("return -2147483647 - 1 < 2147483647;", 1);
        Bench.result("return 1 < 2 && 2 < 3;", 1);
    }

    private static void texts() {
        Bench.resultText("return \"ab\" + \"\" + \"cd\";", "abcd");
        Bench.resultText("return \"abcdefg\" + \"hijklmnop\";", "abcdefghijklmnop");
        Bench.resultText("return \"hello\"[4];", "o");
        Bench.resultText("return \"abcdefghijklmnop\"[15];", "p");
        Bench.resultText("return \"abcdefghi\"[8];", "i");
        Bench.resultText("return \" {}:;\";", " {}:;");
        Bench.result("return size(\"\");", 0);
        Bench.result("return size(\"abcdefghijklmnop\");", 16);
        Bench.result("return \"\" < \"a\";", 1);
        Bench.result("return \"abc\" < \"abd\";", 1);
        Bench.result("return \"abcdefgh\" < \"abcdefghi\";", 1);
        Bench.result("return \"abcdefghz\" < \"abcdefgi\";", 1);
        Bench.result("return \"abcdefghb\" <= \"abcdefgha\";", 0);
        Bench.result("return \"a\" <= \"a\";", 1);
        Bench.result("return \"b\" < \"ab\";", 0);
        Bench.result("return \"~\" < \" \";", 0);
    }

    private static void records() {
        Bench.result("a = {p: 1, q: 2}; return a.p * 10 + a.q;", 12);
        Bench.result("a = {p: 1}; return a.z;", Bench.NIL);
        Bench.result("a = {p: 1, q: 2, p: 3}; return a.p * 10 + size(a);", 32);
        Bench.result("a = {p: 1, q: 2, p: nil}; return size(a);", 1);
        Bench.result("a = {p: nil}; return size(a);", 0);
        Bench.result("a = {}; a.p = 1; a.q = {r: 5}; a.q.r = 6; return a.q.r + size(a);", 8);
        Bench.result("a = {p: 1}; a.p = nil; a.q = nil; return size(a);", 0);
        Bench.result("return {a:1,b:1,c:1,d:1,e:1,f:1,g:1,h:1,a:nil,i:7}.i;", 7);
        Bench.result("a = {a:1,b:1,c:1,d:1,e:1,f:1,g:1,h:1,i:nil}; a.h = 5; a.j = nil; return a.h;", 5);
        Bench.result("a = {a:1}; b = a; b.a = 2; return a.a;", 2);
    }

    private static void rows() {
        Bench.result("a = [1, [2, 3], nil]; return a[1][1] * 10 + size(a);", 33);
        Bench.result("a = [1, 2]; a[0] = 7; return a[0] + a[1];", 9);
        Bench.result("a = [1, 2]; a[1] = nil; return size(a);", 2);
        Bench.result("a = []; return push(push(a, 1), 2) == a && size(a);", 2);
        Bench.result("a = [4, 5]; return pop(a) * 10 + size(a);", 51);
        Bench.result("a = []; push(a, nil); return size(a);", 1);
        Bench.result("a = [nil]; return pop(a);", Bench.NIL);
        Bench.result("a = []; push(a, a); return a[0][0][0] == a;", 1);
        Bench.result("a = [" + Bench.times(19, "1,") + "1]; return size(a);", 20);
        // What stands before the last [ ], then what is in it, then the E behind =.
        new Bench().prints("fun f(n) { print n; return [0]; } f(1)[f(2)[0]] = f(3);", "1\n2\n3\n");
        new Bench().prints("fun f(n) { print n; return {}; } f(1).x = f(2);", "1\n2\n");
    }

    private static void locals() {
        Bench b = new Bench();
        b.gives("a = 1; let a = a; return a;", Bench.NIL);
        b.roots("a", 1);
        b.gives("let a = 5; a = a + 1; return a;", 6);
        b.roots("a", 1);
        b.gives("if (0) { let a = 5; } return a;", Bench.NIL);
        b.gives("let i = 0; while (i < 2) { b = i; let b = 9; i = i + 1; } return b;", 9);
        b.roots("b", 1);
        b.gives("fun f(a) { a = a + 1; return a; } return f(10) + a;", 12);
        b.roots("a", 1);
        b.gives("let a = 7; fun f() { return a; } return f() * 10 + a;", 17);
        b.gives("fun f() { a = 3; let a = 4; return a; } return f() * 10 + a;", 43);
        b.gives("fun f(n) { let t = n; if (n) { f(n - 1); } return t; } return f(5);", 5);
        b.gives("fun f(n) { if (n) { let t = 1; } return t; } f(1); return f(0);", Bench.NIL);
        b.gives("{ let z = 3; } { return z; }", 3);
        // A name of a FUNCTION, or of a FIELD, is no variable.
        b.gives("fun a(x) { return x.a; } let a = 4; return a({a: a});", 4);
    }

    private static void calls() {
        Bench b = new Bench();
        b.gives("fun add(a, b, c, d) { return a * 1000 + b * 100 + c * 10 + d; } return add(1, 2, 3, 4);",
                1234);
        b.gives("return add(0, 0, 0, 1) + add(0, 0, 1, 0);", 11);
        b.gives("fun g() { return h(); } fun h() { return 1; } return g();", 1);
        // A FUNCTION is found when it is called, as it is then.
        b.gives("fun h() { return 2; } return g();", 2);
        b.gives("fun h() { return 3; } fun h() { return 4; } return g();", 4);
        b.gives("return h(); fun h() { return 5; }", 5);
        b.gives("fun h() { } return h();", Bench.NIL);
        b.gives("fun f(n) { if (n == 0) { return 0; } return 1 + f(n - 1); } return f(7);", 7);
        b.runs("return f(8);", 7);
        b.gives("fun f(n) { while (1) { if (n) { return n; } n = 3; } } return f(0);", 3);
        b.gives("return; a = 1;", Bench.NIL);
        b.gives("{ { return 1; } } return 2;", 1);
    }

    private static void printing() {
        Bench b = new Bench();
        b.prints("print 0; print -12; print 2147483647; print -2147483647 - 1;",
                "0\n-12\n2147483647\n-2147483648\n");
        b.prints("print nil; print {}; print []; print \"\"; print \"a b\"; print 10; print 100;",
                "n\nr\nw\n\na b\n10\n100\n");
        b.prints("", "");
        b.runs("print 1; abort;", 10);
        Bench.due("out behind an ERROR", b.out(), "1\n");
        String line = "print \"abcdefghijklmn\";";
        b.prints(Bench.times(40, line), Bench.times(40, "abcdefghijklmn\n"));
        b.runs(Bench.times(39, line) + "print 1; print \"abcdefghijklmn\";", 9);
        Bench.due("out when full", b.out(), Bench.times(39, "abcdefghijklmn\n") + "1\nabcdefghijklm");
        b.runs("let i = 0; while (1) { print i; }", 9);
        b.counts(7, 2 + 2 * 301);
    }
}
