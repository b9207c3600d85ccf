/** Promise 4: what programs do without an ERROR. */
final class LanguageTest {
    public static void main(String[] args) {
        reckoning();
        truth();
        texts();
        records();
        rows();
        locals();
        calls();
        printing();
        partsOfOthers();
        longOnes();
        Bench.finish();
    }

    private static void reckoning() {
        Bench.result("return 2 + 3 * 4 - 5;", 9);
        Bench.result("return 10 - 3 - 2;", 5);
        Bench.result("return 100 / 7 / 2 * 3;", 21);
        Bench.result("return -2 * -3 - -4;", 10);
        Bench.result("return --5;", 5);
        Bench.result("return -(0 - 2147483647 - 1);", -2147483648L);
        Bench.result("return (0 - 2147483647 - 1) % -1;", 0);
        Bench.result("return -7 / 2;", -3);
        Bench.result("return -7 % 3;", -1);
        Bench.result("return 7 / -1 * 10 + 7 / 1;", -63);
        Bench.result("return (0 - 2147483647 - 1) / -1;", -2147483648L);
        Bench.result("return 7 % 1 + 7 % -1;", 0);
        Bench.result("return 7 % -3;", 1);
        Bench.result("return 65536 * 65536;", 0);
        Bench.result("return 2147483647 * 3;", 2147483645);
        Bench.result("return 1 + 2 < 4;", 1);
    }

    private static void truth() {
        Bench.result("return 0 || 7;", 7);
        Bench.result("return 5 || f();", 5);
        Bench.result("return nil && f();", Bench.NIL);
        Bench.result("return 0 && f();", 0);
        Bench.result("return \"\" && 3;", 3);
        Bench.result("return {} && 4;", 4);
        Bench.result("return [] || 4;", Bench.ROW);
        Bench.result("return 0 || nil;", Bench.NIL);
        Bench.result("return 1 && 2 || 3;", 2);
        Bench.result("return 1 || 2 && 0;", 1);
        Bench.result("return !nil + !0 + !1 + !\"\" + ![];", 2);
        Bench.result("return !!7;", 1);
        Bench.result("return !1 == 0;", 1);
        Bench.result("return nil == nil;", 1);
        Bench.result("return nil == 0;", 0);
        Bench.result("return \"1\" != 1;", 1);
        Bench.result("return \"ab\" == \"a\" + \"b\";", 1);
        Bench.result("return {} == {};", 0);
        Bench.result("a = {}; b = [a]; return b[0] == a;", 1);
        Bench.result("a = {}; return a != a;", 0);
        Bench.result("return [] == {};", 0);
        Bench.result("return -1 < 0;", 1);
        Bench.result("return 3 < 3;", 0);
        Bench.result("return 3 <= 3;", 1);
        Bench.result("return -2147483647 - 1 < 2147483647;", 1);
        Bench.result("return 1 < 2 && 2 < 3;", 1);
    }

    private static void texts() {
        Bench.resultText("return \"ab\" + \"\" + \"cd\";", "abcd");
        Bench.resultText("return \"abcdefg\" + \"hijklmnop\";", "abcdefghijklmnop");
        Bench.resultText("return \"hello\"[4];", "o");
        Bench.resultText("return \"abcdefghijklmnop\"[15];", "p");
        Bench.resultText("return \"abcdefghi\"[8];", "i");
        Bench.resultText("return \" {}:;\";", " {}:;");
        Bench.result("return size(\"\");", 0);
        Bench.result("return size(\"abcdefghijklmnop\");", 16);
        Bench.result("return \"\" < \"a\";", 1);
        Bench.result("return \"abc\" < \"abd\";", 1);
        Bench.result("return \"abcdefgh\" < \"abcdefghi\";", 1);
        Bench.result("return \"abcdefghz\" < \"abcdefgi\";", 1);
        Bench.result("return \"abcdefghb\" <= \"abcdefgha\";", 0);
        Bench.result("return \"a\" <= \"a\";", 1);
        Bench.result("return \"b\" < \"ab\";", 0);
        Bench.result("return \"~\" < \" \";", 0);
    }

    private static void records() {
        Bench.result("a = {p: 1, q: 2}; return a.p * 10 + a.q;", 12);
        Bench.result("a = {p: 1}; return a.z;", Bench.NIL);
        Bench.result("a = {p: 1, q: 2, p: 3}; return a.p * 10 + size(a);", 32);
        Bench.result("a = {p: 1, q: 2, p: nil}; return size(a);", 1);
        Bench.result("a = {p: nil}; return size(a);", 0);
        Bench.result("a = {}; a.p = 1; a.q = {r: 5}; a.q.r = 6; return a.q.r + size(a);", 8);
        Bench.result("a = {p: 1}; a.p = nil; a.q = nil; return size(a);", 0);
        Bench.result("return {a:1,b:1,c:1,d:1,e:1,f:1,g:1,h:1,a:nil,i:7}.i;", 7);
        Bench.result("a = {a:1,b:1,c:1,d:1,e:1,f:1,g:1,h:1,i:nil}; a.h = 5; a.j = nil; return a.h;", 5);
        Bench.result("a = {a:1}; b = a; b.a = 2; return a.a;", 2);
        Bench.result("a = {p: 1, q: 2, r: 3}; a.p = nil; return a.q * 10 + a.r;", 23);
        Bench.result("a = {p: 1, q: 2, r: 3}; a.q = nil; a.s = 4; return a.p * 100 + a.r * 10 + a.s;", 134);
        Bench.resultText("a = {p: \"x\", q: 2, r: \"abcdefghij\"}; a.q = nil; return a.p + a.r;",
                "xabcdefghij");
        Bench.resultText("a = {p: 1, p: \"x\"}; a.q = a; a.q = \"y\"; return a.p + a.q;", "xy");
        Bench.result("a = {p: 7, q: \"p\"}; a.p = nil; return a.p == nil;", 1);
        Bench.result("a = {}; return a.p == nil && a.p == b && b == nil;", 1);
    }

    private static void rows() {
        Bench.result("a = [1, [2, 3], nil]; return a[1][1] * 10 + size(a);", 33);
        Bench.result("a = [1, 2]; a[0] = 7; return a[0] + a[1];", 9);
        Bench.result("a = [1, 2]; a[1] = nil; return size(a);", 2);
        Bench.resultText("a = [1, 2]; a[0] = \"x\"; return a[0];", "x");
        Bench.result("a = [1, 2]; a[1] = a; return a[1];", Bench.ROW);
        Bench.result("a = []; return push(push(a, 1), 2) == a && size(a);", 2);
        Bench.result("a = [4, 5]; return pop(a) * 10 + size(a);", 51);
        Bench.result("a = []; push(a, nil); return size(a);", 1);
        Bench.result("a = [nil]; return pop(a);", Bench.NIL);
        Bench.result("a = []; push(a, a); return a[0][0][0] == a;", 1);
        Bench.result("a = [" + Bench.times(19, "1,") + "1]; return size(a);", 20);
        // What stands before the last [ ], then what is in it, then the E behind =.
        new Bench().prints("fun f(n) { print n; return [0]; } f(1)[f(2)[0]] = f(3);", "1\n2\n3\n");
        new Bench().prints("fun f(n) { print n; return {}; } f(1).x = f(2);", "1\n2\n");
    }

    private static void locals() {
        Bench b = new Bench();
        b.gives("a = 1; let a = a; return a;", Bench.NIL);
        b.roots("a", 1);
        b.gives("let a = 5; a = a + 1; return a;", 6);
        b.roots("a", 1);
        b.gives("if (0) { let a = 5; } return a;", Bench.NIL);
        b.gives("let i = 0; while (i < 2) { b = i; let b = 9; i = i + 1; } return b;", 9);
        b.roots("b", 1);
        b.gives("fun f(a) { a = a + 1; return a; } return f(10) + a;", 12);
        b.roots("a", 1);
        b.gives("let a = 7; fun f() { return a; } return f() * 10 + a;", 17);
        b.gives("fun f() { a = 3; let a = 4; return a; } return f() * 10 + a;", 43);
        b.gives("fun f(n) { let t = n; if (n) { f(n - 1); } return t; } return f(5);", 5);
        b.gives("fun f(n) { if (n) { let t = 1; } return t; } f(1); return f(0);", Bench.NIL);
        b.gives("{ let z = 3; } { return z; }", 3);
        b.gives("let v = v; let u = v; return u == nil && v == nil;", 1);
        b.gives("fun l() { if (0) { let v = 1; } return v; } return l() == nil;", 1);
        // A name of a FUNCTION, or of a FIELD, is no variable.
        b.gives("fun a(x) { return x.a; } let a = 4; return a({a: a});", 4);
    }

    private static void calls() {
        Bench b = new Bench();
        b.gives("fun add(a, b, c, d) { return a * 1000 + b * 100 + c * 10 + d; } return add(1, 2, 3, 4);",
                1234);
        b.gives("return add(0, 0, 0, 1) + add(0, 0, 1, 0);", 11);
        b.gives("fun g() { return h(); } fun h() { return 1; } return g();", 1);
        // A FUNCTION is found when it is called, as it is then.
        b.gives("fun h() { return 2; } return g();", 2);
        b.gives("fun h() { return 3; } fun h() { return 4; } return g();", 4);
        b.gives("return h(); fun h() { return 5; }", 5);
        b.gives("fun h() { } return h();", Bench.NIL);
        b.gives("fun f(n) { if (n == 0) { return 0; } return 1 + f(n - 1); } return f(7);", 7);
        b.runs("return f(8);", 7);
        b.gives("fun f(n) { while (1) { if (n) { return n; } n = 3; } } return f(0);", 3);
        b.gives("return; a = 1;", Bench.NIL);
        b.gives("fun h() { return; } fun k() { } return h() == nil && k() == nil && h() == k();", 1);
        b.gives("{ { return 1; } } return 2;", 1);
    }

    /** What is found first must still be there when the rest is found. */
    private static void partsOfOthers() {
        Bench.result("return 10 + (1 && 2);", 12);
        Bench.result("return 10 + (0 || 2);", 12);
        Bench.result("return 10 + (3 || 2) + (0 && 4);", 13);
        Bench.result("return 10 + (1 == 1) + (1 != 1);", 11);
        Bench.result("return 10 + (1 < 2) + (2 <= 1);", 11);
        Bench.result("return 10 + !0 + -1;", 10);
        Bench.result("return 10 + pop([4]) + size([1]);", 15);
        Bench.result("return 10 + [4, 5][1] + {a: 6}.a;", 21);
        Bench.result("return 10 + size(push([], 1)) + size({a: 1, b: 2}) + size(\"abc\");", 16);
        Bench.result("fun f(a, b) { let c = 1; return b; } return 10 + f(1, 2) + f(3, 4);", 16);
        Bench.result("a = [0]; return [1, a[0], size(a), pop(a), nil][2];", 1);
        Bench.result("return \"abc\"[1] == \"b\";", 1);
        Bench.result("a = 3; a; 1; f2; a = a + 1; print a; 2 == 3; return a;", 4);
    }

    private static void longOnes() {
        StringBuilder lets = new StringBuilder();
        StringBuilder sum = new StringBuilder("return 0");
        for (char c = 'a'; c <= 'z'; c++) {
            for (char d = 'a'; d <= 'b'; d++) {
                lets.append("let ").append(c).append(d).append("=").append(c - 'a').append(";");
                sum.append("+").append(c).append(d);
            }
        }
        Bench.result(lets.toString() + sum + ";", 25 * 26);
        Bench.result("return 0" + Bench.times(740, "+1") + ";", 740);
        Bench.result("a = [" + Bench.times(19, "\"abcdefghijklmnop\",") + "7]; return a[19];", 7);
        Bench.error("return [" + Bench.times(740, "1,") + "1];", 4);
        Bench.error("return f(" + Bench.times(740, "1,") + "1);", 6);
        // So many VALUES wait nowhere else: 180 in each of 8 calls, and 735 before them.
        Bench b = new Bench();
        b.runs("fun f(n) { if (n == 7) { return 1; } h(" + Bench.times(180, "1,") + "f(n + 1)); }", 0);
        b.runs("f(0);", 6);
        b.runs("fun f(n) { if (n == 7) { abort; } h(" + Bench.times(180, "1,") + "f(n + 1)); }", 0);
        b.runs("return ([" + Bench.times(735, "1,") + "f(0)]);", 10);
    }

    private static void printing() {
        Bench b = new Bench();
        b.prints("print 0; print -12; print 2147483647; print -2147483647 - 1;",
                "0\n-12\n2147483647\n-2147483648\n");
        b.prints("print nil; print {}; print []; print \"\"; print \"a b\"; print 10; print 100;",
                "n\nr\nw\n\na b\n10\n100\n");
        b.prints("", "");
        b.prints("print -1; print 9; print 1000000000; print 90;", "-1\n9\n1000000000\n90\n");
        b.runs("print 1; abort;", 10);
        Bench.due("out behind an ERROR", b.out(), "1\n");
        String line = "print \"abcdefghijklmn\";";
        b.prints(Bench.times(40, line), Bench.times(40, "abcdefghijklmn\n"));
        b.runs(Bench.times(39, line) + "print 1; print \"abcdefghijklmn\";", 9);
        Bench.due("out when full", b.out(), Bench.times(39, "abcdefghijklmn\n") + "1\nabcdefghijklm");
        b.runs("let i = 0; while (1) { print i; }", 9);
        b.counts(7, 2 + 2 * 301);
    }
}
