/** Terms: VALUES, LOCALS and ROOTS, and what is done with VALUES. */
final class ValuesTest {
    private static final String MIN = "(0 - 2147483647 - 1)";

    public static void main(String[] args) {
        ints();
        fieldsAtMost();
        itemsAtMost();
        localsBehindLet();
        localsOfFunctions();
        localsAreNil();
        rootsNotThere();
        rootsAtMost();
        truth();
        leftOrRight();
        sameness();
        samenessOfNil();
        order();
        joined();
        divided();
        fieldsRead();
        fieldsAssigned();
        itemsOfRows();
        signsOfTexts();
        sizes();
        pushed();
        popped();
        madeWhenFound();
        namesTwice();
        keptMeanwhile();
        longOnes();
        Bench.finish();
    }

    private static void ints() {
        Bench.says("ints (32 bits, wrapping)");
        Bench.result("return 2147483646 + 1;", 2147483647);
        Bench.result("return 2147483647 + 1;", -2147483648L);
        Bench.result("return 0 - 2147483647 - 1;", -2147483648L);
        Bench.result("return " + MIN + " - 1;", 2147483647);
        Bench.result("return " + MIN + " + " + MIN + ";", 0);
        Bench.result("return 46340 * 46340;", 2147395600);
        Bench.result("return 46341 * 46341;", -2147479015);
        Bench.result("return 65536 * 65536;", 0);
        Bench.result("return 2147483647 * 3;", 2147483645);
        Bench.result("return -2147483647;", -2147483647);
        Bench.result("return -" + MIN + ";", -2147483648L);
        Bench.result("return " + MIN + " / -1;", -2147483648L);
        Bench.result("return " + MIN + " % -1;", 0);
        Bench.result("return 2147483647 + 1 == " + MIN + ";", 1);
        Bench.result("return 2147483647 + 1 < 0;", 1);
    }

    private static void fieldsAtMost() {
        Bench.says("RECORDS with at most 8 FIELDS");
        Bench.result("return size({" + Bench.fields(7) + "});", 7);
        Bench.result("return size({" + Bench.fields(8) + "});", 8);
        Bench.error("return size({" + Bench.fields(9) + "});", 4);
        Bench.error("return size({" + Bench.fields(90) + "});", 4);
        Bench.result("a = {" + Bench.fields(6) + "}; a.x = 1; return size(a);", 7);
        Bench.result("a = {" + Bench.fields(7) + "}; a.x = 1; return size(a);", 8);
        Bench.error("a = {" + Bench.fields(8) + "}; a.x = 1; return size(a);", 4);
    }

    private static void itemsAtMost() {
        Bench.says("ROWS with at most 20 ITEMS");
        Bench.result("return size([" + Bench.list(19, "1") + "]);", 19);
        Bench.result("return size([" + Bench.list(20, "1") + "]);", 20);
        Bench.error("return size([" + Bench.list(21, "1") + "]);", 4);
        Bench.error("return size([" + Bench.list(22, "nil") + "]);", 4);
        Bench.result("a = [" + Bench.list(18, "1") + "]; push(a, 2); return size(a);", 19);
        Bench.result("a = [" + Bench.list(19, "1") + "]; push(a, 2); return size(a);", 20);
        Bench.error("a = [" + Bench.list(20, "1") + "]; push(a, 2);", 4);
    }

    private static void localsBehindLet() {
        Bench.says("LOCAL behind a let of the same text before them in the row of tokens, in the same FUNCTION"
                + " (or in none; the E of that let stands behind it, too)");
        Bench b = new Bench();
        b.gives("a = 1; let a = a; return a;", Bench.NIL);
        b.roots("a", 1);
        b.gives("let a = 5; a = a + 1; return a;", 6);
        b.roots("a", 1);
        b.gives("a = 2; let a = 5; a = 6;", Bench.NIL);
        b.roots("a", 2);
        b.gives("{ { let z = 3; } } { return z; }", 3);
        b.roots("z", Bench.NIL);
        b.gives("if (0) { let a = 5; } return a;", Bench.NIL);
        b.gives("if (0) { let a = 5; } else { a = 7; } return a;", 7);
        b.roots("a", 2);
        b.gives("let i = 0; while (i < 2) { b = i; let b = 9; i = i + 1; } return b;", 9);
        b.roots("b", 1);
        b.gives("let a = 7; fun f() { return a; } return f() * 10 + a;", 27);
        b.gives("fun f() { a = 3; let a = 4; return a; } return f() * 10 + a;", 43);
        b.roots("a", 3);
        b.gives("fun f() { let a = 8; } f(); a = 4; return a;", 4);
        b.roots("a", 4);
        b.gives("let a = 1; fun f(x) { let x = x + 1; return x; } let a = a + 1; return a * 10 + f(5);", 26);
        // A NAME of a FUNCTION, or of a FIELD, is neither LOCAL nor a ROOT.
        b.gives("fun a(x) { return x.a; } let a = 4; return a({a: a});", 4);
    }

    private static void localsOfFunctions() {
        Bench.says("and if they are among its NAMES");
        Bench b = new Bench();
        b.runs("a = 1;", 0);
        b.gives("fun f(a) { a = a + 1; return a; } return f(10) * 10 + a;", 111);
        b.roots("a", 1);
        b.gives("fun f(a, b, c, d) { d = a; a = nil; b = 2; c = 3; return d; } return f(6, 0, 0, 0);", 6);
        b.counts(1, 1);
        b.gives("fun f(n) { let t = n; if (n) { f(n - 1); } return t; } return f(5);", 5);
        b.gives("fun g(n) { n = n + 1; } let n = 3; g(n); return n;", 3);
        b.gives("fun g(n) { n[0] = 4; } let n = [3]; g(n); return n[0];", 4);
    }

    private static void localsAreNil() {
        Bench.says("LOCALS are nil till let or assigned");
        Bench b = new Bench();
        b.gives("fun f(n) { if (n) { let t = 1; } return t; } f(1); return f(0);", Bench.NIL);
        b.gives("fun f(n) { if (n) { let t = 1; return t; } t = 5; return t; } return f(1) * 10 + f(0);", 15);
        b.gives("let v = v; let u = v; return u == nil && v == nil;", 1);
        b.gives("f(1); if (0) { let w = 1; } return w;", Bench.NIL);
        b.gives("let w = 1; w = nil; return w;", Bench.NIL);
        // Those of a program before it are gone.
        b.gives("let w = 1;", Bench.NIL);
        b.gives("if (0) { let w = 1; } return w;", Bench.NIL);
    }

    private static void rootsNotThere() {
        Bench.says("all others are ROOTS, nil if they are not there; to assign nil to one takes it away");
        Bench b = new Bench();
        b.gives("return a;", Bench.NIL);
        b.counts(1, 0);
        b.gives("a = 1; return a;", 1);
        b.gives("return a;", 1);
        b.counts(1, 1);
        b.runs("a = nil;", 0);
        b.counts(1, 0);
        b.gives("return a;", Bench.NIL);
        b.runs("b = nil;", 0);
        b.counts(1, 0);
        b.runs("a = 1; b = 2; c = 3; d = 4;", 0);
        b.gives("a = nil; return b * 100 + c * 10 + d;", 234);
        b.gives("c = nil; return b * 10 + d;", 24);
        b.gives("d = nil; c = 5; return b * 10 + c;", 25);
        b.counts(1, 2);
    }

    private static void rootsAtMost() {
        Bench.says("at most 12 (ERROR 8)");
        String eleven = "a=1;b=1;c=1;d=1;e=1;f=1;g=1;h=1;i=1;j=1;k=1;";
        Bench b = new Bench();
        b.runs(eleven, 0);
        b.counts(1, 11);
        b.runs("l = 1;", 0);
        b.counts(1, 12);
        b.runs("m = 1;", 8);
        b.counts(1, 12);
        b.roots("m", Bench.NIL);
        b.runs("m = nil;", 0);
        b.runs("l = 2;", 0);
        b.roots("l", 2);
        b.runs("let n = 1; n = 2;", 0);
        b.runs("fun f(n) { n = n + 1; } f(1);", 0);
        b.runs("fun f() { m = 1; } f();", 8);
        b.runs("a = nil; m = 1;", 0);
        b.counts(1, 12);
        b.runs("m = nil; a = 1; a = nil; m = 2; a = 3;", 8);
        b.roots("m", 1);
        Bench.error(eleven + "l=1;", 0);
        Bench.error(eleven + "l=1;m=1;", 8);
        Bench.error(eleven + "l=1;l=nil;m=1;", 0);
        // The E is found first.
        Bench.error(eleven + "l=1;m=1/0;", 5);
    }

    private static void truth() {
        Bench.says("TRUE is all but nil and 0.");
        String[] yes = {"1", "-1", "2147483647", MIN, "\"\"", "\"0\"", "{}", "[]", "[0]"};
        String[] no = {"nil", "0", "-0", "1 - 1", "x"};
        for (String e : yes) {
            Bench.result("if (" + e + ") { return 1; } else { return 2; }", 1);
            Bench.result("while (" + e + ") { return 1; } return 2;", 1);
            Bench.result("return !(" + e + ");", 0);
            Bench.result("return (" + e + ") && 7;", 7);
            Bench.result("return !!((" + e + ") || 7);", 1);
        }
        for (String e : no) {
            Bench.result("if (" + e + ") { return 1; } else { return 2; }", 2);
            Bench.result("while (" + e + ") { return 1; } return 2;", 2);
            Bench.result("return !(" + e + ");", 1);
            Bench.result("return !!((" + e + ") && 7);", 0);
            Bench.result("return (" + e + ") || 7;", 7);
        }
    }

    private static void leftOrRight() {
        Bench.says("&& and || give the left one if that decides, else the right one, which is only found then;"
                + " the others 1 or 0.");
        Bench.result("return 5 || f();", 5);
        Bench.result("return [] || f();", Bench.ROW);
        Bench.resultText("return \"\" || f();", "");
        Bench.result("return nil && f();", Bench.NIL);
        Bench.result("return 0 && f();", 0);
        Bench.error("return 0 || f();", 6);
        Bench.error("return 1 && f();", 6);
        Bench.result("return 0 || nil;", Bench.NIL);
        Bench.result("return nil || 0;", 0);
        Bench.result("return \"\" && 3;", 3);
        Bench.result("return 1 && nil;", Bench.NIL);
        Bench.result("return 1 && {};", Bench.RECORD);
        Bench.result("return 0 || 0 || 3 || f();", 3);
        Bench.result("return 1 && 2 && 0 && f();", 0);
        Bench.result("return 0 && f() || 4;", 4);
        Bench.result("return 3 || f() && g();", 3);
        Bench.result("return 7 == 7;", 1);
        Bench.result("return 7 != 7;", 0);
        Bench.result("return 7 < 8;", 1);
        Bench.result("return 9 <= 8;", 0);
        Bench.result("return !7;", 0);
    }

    private static void sameness() {
        Bench.says("== is for all: the same int, text, nil or OBJECT");
        String[] all = {"nil", "0", "1", "-1", "\"\"", "\"0\"", "\"1\"", "\"a\"", "\"ab\"", "\"abcdefgh\"",
            "\"abcdefghi\"", "\"abcdefghijklmnop\"", "\"abcdefghijklmnoq\""};
        for (String one : all) {
            for (String other : all) {
                int same = one.equals(other) ? 1 : 0;
                Bench b = new Bench();
                b.gives("return " + one + " == " + other + ";", same);
                b.gives("return " + one + " != " + other + ";", 1 - same);
            }
            Bench b = new Bench();
            b.gives("return [] == " + one + ";", 0);
            b.gives("return " + one + " != {};", 1);
        }
        Bench.result("return {} == {};", 0);
        Bench.result("return [] != [];", 1);
        Bench.result("return [] == {};", 0);
        Bench.result("a = {}; b = [a]; return b[0] == a;", 1);
        Bench.result("a = []; b = {c: a}; return b.c != a;", 0);
        Bench.result("return \"ab\" == \"a\" + \"b\";", 1);
        Bench.result("return \"abcdefghi\"[8] == \"i\";", 1);
    }

    /** nil is the same wherever it comes from. */
    private static void samenessOfNil() {
        Bench.says("== is for all: the same int, text, nil or OBJECT");
        String[] all = {"nil", "x", "l", "({}).p", "({p: 1}).q", "[nil][0]", "pop([nil])", "f()", "g()",
            "(nil && 1)", "(0 || nil)"};
        String start = "fun f() {} fun g() { return; } if (0) { let l = 1; } ";
        for (String one : all) {
            for (String other : all) {
                Bench.result(start + "return " + one + " == " + other + ";", 1);
            }
            Bench.result(start + "return " + one + " == 0;", 0);
            Bench.result(start + "return " + one + " != \"\";", 1);
        }
    }

    private static void order() {
        Bench.says("< and <= two ints or two texts (a beginning is before what is longer)");
        String[] ints = {MIN, "-2147483647", "-1", "0", "1", "2", "2147483646", "2147483647"};
        String[] texts = {"\"\"", "\" \"", "\"0\"", "\"a\"", "\"ab\"", "\"abcdefg\"", "\"abcdefgh\"", "\"abcdefgh \"",
            "\"abcdefgha\"", "\"abcdefghijklmno\"", "\"abcdefghijklmnop\"", "\"abcdefghijklmnoq\"", "\"abcdefgi\"",
            "\"b\"", "\"~\"", "\"~~\""};
        inOrder(ints);
        inOrder(texts);
        String[][] wrong = {{"1", "\"1\""}, {"\"1\"", "1"}, {"1", "nil"}, {"nil", "1"}, {"nil", "nil"}, {"[]", "[]"},
            {"{}", "{}"}, {"\"\"", "nil"}, {"[]", "1"}, {"\"a\"", "{}"}, {"a", "a"}};
        for (String[] two : wrong) {
            Bench.error("return " + two[0] + " < " + two[1] + ";", 2);
            Bench.error("return " + two[0] + " <= " + two[1] + ";", 2);
        }
    }

    private static void inOrder(String[] sorted) {
        for (int i = 0; i < sorted.length; i++) {
            for (int k = 0; k < sorted.length; k++) {
                Bench b = new Bench();
                b.gives("return " + sorted[i] + " < " + sorted[k] + ";", i < k ? 1 : 0);
                b.gives("return " + sorted[i] + " <= " + sorted[k] + ";", i <= k ? 1 : 0);
            }
        }
    }

    private static void joined() {
        Bench.says("+ ints, or two texts, joined (at most 16 signs, else ERROR 4)");
        String signs = "abcdefghijklmnopq";
        for (int cut = 1; cut <= 16; cut++) {
            String first = signs.substring(0, cut);
            for (int size = 15; size <= 17; size++) {
                String second = signs.substring(Math.min(cut, size), size);
                String text = "return \"" + first + "\" + \"" + second + "\";";
                if (cut + second.length() <= 16) {
                    Bench.resultText(text, first + second);
                } else {
                    Bench.error(text, 4);
                }
            }
        }
        Bench.resultText("return \"\" + \"\";", "");
        Bench.resultText("return \"\" + \"abcdefghijklmnop\";", "abcdefghijklmnop");
        Bench.error("return \"abcdefghijklmnop\" + \"abcdefghijklmnop\";", 4);
        Bench.resultText("a = \"x\"; b = a + \"y\"; return a;", "x");
        String[] wrong = {"1 + \"a\"", "\"a\" + 1", "nil + 1", "1 + nil", "\"a\" + nil", "[] + []", "{} + 1",
            "\"abcdefghijklmnop\" + 1"};
        for (String e : wrong) {
            Bench.error("return " + e + ";", 2);
        }
    }

    private static void divided() {
        Bench.says("- * / % ints; / cut to 0, % with the sign of the first, by 0 ERROR 5");
        int[][] all = {{7, 2, 3, 1}, {-7, 2, -3, -1}, {7, -2, -3, 1}, {-7, -2, 3, -1}, {6, 3, 2, 0},
            {-6, 3, -2, 0}, {1, 2, 0, 1}, {-1, 2, 0, -1}, {0, 5, 0, 0}, {7, 1, 7, 0}, {7, -1, -7, 0}};
        for (int[] one : all) {
            Bench.result("return " + one[0] + " / " + one[1] + ";", one[2]);
            Bench.result("return " + one[0] + " % " + one[1] + ";", one[3]);
        }
        for (String zero : new String[] {"0", "-0", "(1 - 1)", "(65536 * 65536)"}) {
            Bench.error("return 1 / " + zero + ";", 5);
            Bench.error("return 1 % " + zero + ";", 5);
            Bench.error("return 0 / " + zero + ";", 5);
            Bench.error("return 0 % " + zero + ";", 5);
        }
        for (String sign : new String[] {"-", "*", "/", "%"}) {
            for (String other : new String[] {"nil", "\"a\"", "{}", "[]"}) {
                Bench.error("return 1 " + sign + " " + other + ";", 2);
                Bench.error("return " + other + " " + sign + " 1;", 2);
                Bench.error("return " + other + " " + sign + " 0;", 2);
                Bench.error("return " + other + " " + sign + " " + other + ";", 2);
            }
        }
        for (String other : new String[] {"nil", "\"a\"", "{}", "[]"}) {
            Bench.error("return -" + other + ";", 2);
        }
    }

    private static void fieldsRead() {
        Bench.says("\".\" of a RECORD: its FIELD (nil if it has none of the NAME)");
        Bench.result("a = {p: 1, q: 2}; return a.p * 10 + a.q;", 12);
        Bench.result("a = {p: 1}; return a.q;", Bench.NIL);
        Bench.result("a = {}; return a.p;", Bench.NIL);
        Bench.result("a = {p: 1}; return a.pp;", Bench.NIL);
        Bench.result("a = {abcdefgh: 1}; return a.abcdefg;", Bench.NIL);
        Bench.result("a = {" + Bench.fields(7) + ",z:5}; return a.z;", 5);
        // A VALUE that reads as the NAME is no NAME.
        Bench.result("a = {p: \"q\"}; return a.q;", Bench.NIL);
        Bench.result("a = {p: \"q\", r: 1}; return a.q;", Bench.NIL);
        for (String other : new String[] {"nil", "1 ", "\"a\"", "[]", "a"}) {
            Bench.error("return " + other + ".p;", 2);
        }
    }

    private static void fieldsAssigned() {
        Bench.says("assigned: it comes behind the others (ERROR 4 with 8), or nil takes it away");
        Bench.result("a = {}; a.p = 1; a.q = {r: 5}; a.q.r = 6; return a.p + a.q.r + size(a);", 9);
        Bench.result("a = {p: 1}; a.p = 2; return a.p * 10 + size(a);", 21);
        Bench.result("a = {p: 1}; a.p = nil; a.q = nil; return size(a);", 0);
        Bench.result("a = {p: 1, q: 2, r: 3}; a.p = nil; return a.q * 10 + a.r;", 23);
        Bench.result("a = {p: 1, q: 2, r: 3}; a.q = nil; a.s = 4; return a.p * 100 + a.r * 10 + a.s;", 134);
        Bench.result("a = {p: 1, q: 2, r: 3}; a.r = nil; return a.p * 10 + a.q;", 12);
        Bench.result("a = {p: 7, q: \"p\"}; a.p = nil; return a.p == nil;", 1);
        Bench.resultText("a = {p: \"x\", q: 2, r: \"abcdefghij\"}; a.q = nil; return a.p + a.r;", "xabcdefghij");
        Bench.result("a = {p: 1}; b = a; b.p = 2; return a.p;", 2);
        String eight = "a = {" + Bench.fields(8) + "}; ";
        Bench.error(eight + "a.z = 1;", 4);
        Bench.error(eight + "a.z = nil;", 0);
        Bench.result(eight + "a.f8 = 5; return a.f8 + a.f1;", 6);
        Bench.result(eight + "a.f1 = nil; a.z = 6; return a.z + size(a);", 14);
        Bench.error(eight + "a.f1 = nil; a.z = 6; a.f1 = 1;", 4);
        for (String other : new String[] {"nil", "1 ", "\"a\"", "[]"}) {
            Bench.error(other + ".p = 1;", 2);
            Bench.error(other + ".p = nil;", 2);
        }
        // The place of a FIELD shows in what a COMMIT writes.
        Bench b = new Bench();
        b.runs("a = {p: 1, q: 2};", 0);
        b.writes("a.p = nil; a.p = 1;", 24);
        b.writes("a.p = nil; a.p = 1;", 8);
        b.writes("a.q = 3; a.q = 2;", 8);
        b.writes("a.q = nil; a.p = nil; a.q = 2; a.p = 1;", 8);
        b.writes("a.q = nil; a.p = nil; a.p = 1; a.q = 2;", 24);
    }

    private static void itemsOfRows() {
        Bench.says("[ ] of a ROW, an int (ERROR 2 else) from 0 up to less than its size: ERROR 3 else");
        for (int size = 0; size <= 20; size++) {
            String row = "a = [" + Bench.list(size, "7") + "]; ";
            for (int index : new int[] {-1, 0, size - 1, size, size + 1, 20, 2147483647}) {
                boolean there = index >= 0 && index < size;
                Bench.error(row + "return a[" + index + "];", there ? 0 : 3);
                Bench.error(row + "a[" + index + "] = 1;", there ? 0 : 3);
            }
            Bench.error(row + "return a[" + MIN + "];", 3);
        }
        Bench.error("return [1][65536 * 65536];", 0);
        Bench.result("a = [1, [2, 3], nil]; return a[1][1] * 10 + size(a);", 33);
        Bench.result("a = [1, 2]; a[0] = 7; return a[0] * 10 + a[1];", 72);
        Bench.result("a = [1, 2]; a[1] = nil; return size(a);", 2);
        Bench.result("a = [1, 2]; a[1] = nil; return a[1];", Bench.NIL);
        Bench.result("a = [1, 2]; a[1] = a; return a[1][1][0];", 1);
        Bench.resultText("a = [1, 2]; a[0] = \"x\"; return a[0];", "x");
        for (String other : new String[] {"nil", "\"0\"", "[]", "{}", "[0]"}) {
            Bench.error("return [1][" + other + "];", 2);
            Bench.error("return [][" + other + "];", 2);
            Bench.error("[1][" + other + "] = 1;", 2);
        }
        for (String other : new String[] {"nil", "1", "({})", "({p: 1})"}) {
            Bench.error("return " + other + "[0];", 2);
            Bench.error("return " + other + "[-1];", 2);
            Bench.error("return " + other + "[\"p\"];", 2);
            Bench.error(other + "[0] = 1;", 2);
        }
    }

    private static void signsOfTexts() {
        Bench.says("of a text: the text of that sign (to assign to it is ERROR 2)");
        String signs = "abcdefghijklmnop";
        for (int size = 0; size <= 16; size++) {
            String text = "\"" + signs.substring(0, size) + "\"";
            for (int index : new int[] {-1, 0, size - 1, size, size + 1, 16, 2147483647}) {
                if (index >= 0 && index < size) {
                    Bench.resultText("return " + text + "[" + index + "];", signs.substring(index, index + 1));
                } else {
                    Bench.error("return " + text + "[" + index + "];", 3);
                }
                Bench.error(text + "[" + index + "] = \"a\";", 2);
            }
        }
        for (String other : new String[] {"nil", "\"0\"", "[]", "{}"}) {
            Bench.error("return \"a\"[" + other + "];", 2);
            Bench.error("\"a\"[" + other + "] = \"b\";", 2);
        }
    }

    private static void sizes() {
        Bench.says("size: of a ROW, RECORD, text.");
        for (int many = 0; many <= 20; many++) {
            Bench.result("return size([" + Bench.list(many, "nil") + "]);", many);
            if (many <= 16) {
                Bench.result("return size(\"" + Bench.times(many, "x") + "\");", many);
            }
            if (many <= 8) {
                Bench.result("return size({" + Bench.fields(many) + "});", many);
            }
        }
        Bench.error("return size(nil);", 2);
        Bench.error("return size(0);", 2);
        Bench.error("return size(a);", 2);
    }

    private static void pushed() {
        Bench.says("push: an ITEM comes behind (ERROR 4 with 20): the ROW");
        Bench.result("a = []; return push(push(a, 1), 2) == a && size(a);", 2);
        Bench.result("a = [1]; push(a, 2); return a[0] * 10 + a[1];", 12);
        Bench.result("a = []; push(a, nil); return size(a);", 1);
        Bench.result("a = []; push(a, a); return a[0][0][0] == a;", 1);
        Bench.error("let i = 0; a = []; while (i < 20) { push(a, i); i = i + 1; }", 0);
        Bench.error("let i = 0; a = []; while (i < 21) { push(a, i); i = i + 1; }", 4);
        Bench.error("a = [" + Bench.list(20, "1") + "]; push(a, nil);", 4);
        for (String other : new String[] {"nil", "1", "\"a\"", "{}"}) {
            Bench.error("push(" + other + ", 1);", 2);
        }
    }

    private static void popped() {
        Bench.says("pop: the last one goes (ERROR 3 if there is none): it");
        Bench.result("a = [4, 5]; return pop(a) * 10 + size(a);", 51);
        Bench.result("a = [4, 5]; pop(a); return pop(a) * 10 + size(a);", 40);
        Bench.error("a = [4, 5]; pop(a); pop(a); pop(a);", 3);
        Bench.error("pop([]);", 3);
        Bench.result("return pop([nil]);", Bench.NIL);
        Bench.result("a = [" + Bench.list(20, "1") + "]; pop(a); push(a, 7); return a[19] * 100 + size(a);", 720);
        Bench.error("a = [1]; pop(a); a[0];", 3);
        for (String other : new String[] {"nil", "1", "\"a\"", "{}", "({p: 1})"}) {
            Bench.error("pop(" + other + ");", 2);
        }
    }

    private static void madeWhenFound() {
        Bench.says("A RECORD or ROW is made when all its E are found (ERROR 8 then, ahead of ERROR 4 for what has"
                + " no place in it), and gets them then, one by one");
        String fill = "let i = 0; while (i < 99) { []; i = i + 1; } ";
        Bench.error(fill + "[];", 0);
        Bench.error(fill + "[]; [];", 8);
        Bench.error(fill + "[[]];", 8);
        Bench.error(fill + "a = {b: []};", 8);
        Bench.error(fill + "[]; [1 / 0];", 5);
        Bench.error(fill + "[]; a = {b: 1 / 0};", 5);
        Bench.error(fill + "[" + Bench.list(21, "1") + "];", 4);
        Bench.error(fill + "[]; [" + Bench.list(21, "1") + "];", 8);
        Bench.error(fill + "a = {" + Bench.fields(9) + "};", 4);
        Bench.error(fill + "[]; a = {" + Bench.fields(9) + "};", 8);
        // All E come ahead of the first one that has no place.
        Bench.error("[" + Bench.list(21, "1") + ", 1 / 0];", 5);
        Bench.error("a = {" + Bench.fields(9) + ", z: 1 / 0};", 5);
        Bench.result("a = {" + Bench.fields(8) + ", f1: nil, z: 7}; return a.z;", 7);
        Bench.error("a = {" + Bench.fields(8) + ", z: 7, f1: nil};", 4);
        Bench.result("a = {" + Bench.fields(8) + ", z: nil}; return size(a);", 8);
        Bench.result("b = []; a = [push(b, 1), size(b), push(b, 2), size(b)]; return a[1] * 10 + a[3];", 12);
    }

    private static void namesTwice() {
        Bench.says("a RECORD's NAMES twice: the later one counts, at the place of the first (nil: it goes away)");
        Bench.result("a = {p: 1, q: 2, p: 3}; return a.p * 100 + a.q * 10 + size(a);", 322);
        Bench.result("a = {p: 1, p: 2, p: 3}; return a.p * 10 + size(a);", 31);
        Bench.result("a = {p: 1, q: 2, p: nil}; return size(a) * 10 + a.q;", 12);
        Bench.result("a = {p: nil}; return size(a);", 0);
        Bench.result("a = {p: nil, p: 4}; return size(a) * 10 + a.p;", 14);
        Bench.result("a = {p: 1, p: nil, p: nil}; return size(a);", 0);
        Bench.resultText("a = {p: 1, p: \"x\"}; a.q = a; a.q = \"y\"; return a.p + a.q;", "xy");
        Bench.result("a = {" + Bench.fields(8) + ", f8: 5}; return a.f8 * 10 + size(a);", 58);
        // At the place of the first: so nothing is another when it is assigned in that order.
        Bench b = new Bench();
        b.runs("a = {p: 1, q: 2, p: 3};", 0);
        b.writes("a.p = nil; a.q = nil; a.p = 3; a.q = 2;", 8);
        b.writes("a.p = nil; a.q = nil; a.q = 2; a.p = 3;", 24);
    }

    /** What is found first must still be there when the rest is found. */
    private static void keptMeanwhile() {
        Bench.says("CALL: E from the left");
        Bench.result("return 10 + (1 && 2);", 12);
        Bench.result("return 10 + (0 || 2);", 12);
        Bench.result("return 10 + (3 || 2) + (0 && 4);", 13);
        Bench.result("return 10 + (1 == 1) + (1 != 1);", 11);
        Bench.result("return 10 + (1 < 2) + (2 <= 1);", 11);
        Bench.result("return 10 + !0 + -1;", 10);
        Bench.result("return 10 + pop([4]) + size([1]);", 15);
        Bench.result("return 10 + [4, 5][1] + {a: 6}.a;", 21);
        Bench.result("return 10 + size(push([], 1)) + size({a: 1, b: 2}) + size(\"abc\");", 16);
        Bench.result("return 10 + size({}) + size([]) + size(\"\");", 10);
        Bench.result("fun f() { return 1; } return 10 + f() + f();", 12);
        Bench.result("let a = 1; let b = {}; let c = [0]; b.p = 7; c[0] = 8; x = 9; a = 6; push(c, 5);"
                + " return a * 10000 + b.p * 1000 + c[0] * 100 + x * 10 + c[1];", 67895);
        Bench.result("fun f(a, b) { let c = 1; return b; } return 10 + f(1, 2) + f(3, 4);", 16);
        Bench.result("a = [0]; return [1, a[0], size(a), pop(a), nil][2];", 1);
        Bench.result("a = 3; a; 1; f2; a = a + 1; print a; 2 == 3; return a;", 4);
    }

    private static void longOnes() {
        Bench.says("THE TAPE has bytes, none at first, at most 1500");
        StringBuilder lets = new StringBuilder();
        StringBuilder sum = new StringBuilder("return 0");
        for (char c = 'a'; c <= 'z'; c++) {
            for (char d = 'a'; d <= 'b'; d++) {
                lets.append("let ").append(c).append(d).append("=").append(c - 'a').append(";");
                sum.append("+").append(c).append(d);
            }
        }
        Bench.result(lets.toString() + sum + ";", 25 * 26);
        Bench.result("return 0" + Bench.times(740, "+1") + ";", 740);
        Bench.result("a = [" + Bench.times(19, "\"abcdefghijklmnop\",") + "7]; return a[19];", 7);
        Bench.error("return [" + Bench.list(741, "1") + "];", 4);
        Bench.error("return f(" + Bench.list(741, "1") + ");", 6);
        // So many VALUES wait nowhere else: 180 in each of 8 calls, and 735 before them.
        Bench b = new Bench();
        b.runs("fun f(n) { if (n == 7) { return 1; } h(" + Bench.times(180, "1,") + "f(n + 1)); }", 0);
        b.runs("f(0);", 6);
        b.runs("fun f(n) { if (n == 7) { abort; } h(" + Bench.times(180, "1,") + "f(n + 1)); }", 0);
        b.runs("return ([" + Bench.times(735, "1,") + "f(0)]);", 10);
    }
}
