/** Promises 8, 9, 10 and 11: sync, crash, sweep, count. */
final class LogTest {
    public static void main(String[] args) {
        bytes();
        syncing();
        crashing();
        waiting();
        sweeping();
        counting();
        Bench.finish();
    }

    private static void writes(Bench b, String text, int want) {
        int before = b.x.count(4);
        b.runs(text, 0);
        Bench.due("bytes of " + text, b.x.count(4) - before, want);
    }

    private static void bytes() {
        Bench b = new Bench();
        writes(b, "", 8);
        writes(b, "a = 1;", 14);
        writes(b, "a = 1;", 8);
        writes(b, "a = 2; a = 1;", 8);
        writes(b, "a = nil; a = 1;", 8);
        writes(b, "z = nil;", 8);
        writes(b, "z = 1; z = nil;", 8);
        writes(b, "a = \"1\";", 14);
        writes(b, "a = nil;", 14);
        writes(b, "r = {p: 1, q: 2}; w = [1, 2];", 8 + 32 + 12);
        writes(b, "[];", 24);
        writes(b, "r.p = 1; w[0] = 1;", 8);
        writes(b, "r.p = 5; w[0] = 5; r.p = 1; w[0] = 1;", 8);
        writes(b, "r.p = 5;", 24);
        writes(b, "push(w, 3); pop(w);", 8);
        writes(b, "push(w, 3);", 24);
        writes(b, "w[0] = 2; w[1] = 1;", 24);
        writes(b, "r.s = nil;", 8);
        // The order of the FIELDS counts, too.
        writes(b, "r.p = nil; r.p = 5;", 24);
        writes(b, "r.q = nil; r.q = 2;", 24);
        writes(b, "r.q = nil; r.q = 2;", 8);
        // A ROOT has the same VALUE when only what is in its OBJECT is another.
        writes(b, "r.w = w; w[0] = r;", 8 + 32);
        writes(b, "r = {p: 5, q: 2};", 8 + 16 + 6);
        writes(b, "let t = r; r = w; w = t;", 8 + 12);
        writes(b, "fun f() {}", 8 + 6);
        writes(b, "fun f() {}", 8 + 6);
        writes(b, "fun f(a, b) { return a + b; } fun f() {}", 8 + 3 * (7 + 2));
        writes(b, "fun g() { return \"a b\"; } a = 1;", 8 + 15 + 6);
        int before = b.x.count(4);
        b.runs("a = 5; abort;", 10);
        b.runs("a = 5", 105);
        b.counts(4, before);
    }

    private static void syncing() {
        Bench b = new Bench();
        b.runs("a = 1;", 0);
        b.runs("a = 2;", 0);
        Bench.due("sync", b.x.sync(), 2);
        b.counts(4, 28);
        b.counts(5, 0);
        b.counts(6, 0);
        Bench.due("sync again", b.x.sync(), 0);
        b.runs("a = 3; b = 1; fun f() {} [];", 0);
        b.counts(4, 28 + 8 + 12 + 6 + 16);
        b.counts(5, 8 + 12 + 6 + 16);
        Bench.due("crash", b.x.crash(41), 0);
        b.roots("a", 2);
        b.roots("b", Bench.NIL);
        b.counts(0, 0);
        b.counts(2, 0);
        b.counts(4, 28);
    }

    private static void crashing() {
        for (int n = 0; n <= 60; n++) {
            Bench b = new Bench();
            b.runs("o = {p: 1};", 0);
            b.x.sync();
            b.runs("o.p = 2;", 0);
            b.runs("", 0);
            b.runs("fun f() {} o = 3;", 0);
            b.type("o");
            int left = n < 24 ? 0 : n < 32 ? 1 : n < 52 ? 2 : 3;
            Bench.due("crash(" + n + ")", b.x.crash(n), left);
            Bench.due("the tape stays", b.x.end(1), 1);
            Bench.due("root o", b.x.root(), left == 3 ? 3 : Bench.RECORD);
            b.counts(2, left == 3 ? 1 : 0);
            b.counts(3, left == 3 ? 2 : 0);
            b.counts(4, 30 + (left == 0 ? 0 : left == 1 ? 24 : left == 2 ? 32 : 52));
            b.counts(5, 0);
            b.counts(6, 0);
            b.counts(7, 1);
            if (left < 3) {
                b.gives("return o.p;", left == 0 ? 1 : 2);
            }
            Bench.due("crash once more", b.x.crash(Integer.MAX_VALUE), left < 3 ? 1 : 0);
        }
        Bench b = new Bench();
        b.runs("a = 1;", 0);
        Bench.due("crash(-1)", b.x.crash(-1), StowTongue.REFUSED);
        Bench.due("crash(min)", b.x.crash(Integer.MIN_VALUE), StowTongue.REFUSED);
        b.counts(6, 1);
        b.roots("a", 1);
        Bench.due("crash(max)", b.x.crash(Integer.MAX_VALUE), 1);
        b.roots("a", 1);
    }

    private static void waiting() {
        for (int many = 1; many <= 30; many++) {
            Bench b = new Bench();
            for (int i = 1; i <= many; i++) {
                b.runs("a = " + i + ";", 0);
            }
            int waits = Math.min(many, 8);
            b.counts(6, waits);
            b.counts(5, 14 * waits);
            b.counts(4, 14 * many);
            int left = many % 5;
            Bench.due("crash", b.x.crash(14 * left + 13), Math.min(left, waits));
            int now = many - waits + Math.min(left, waits);
            b.roots("a", now == 0 ? Bench.NIL : now);
            b.counts(4, 14 * now);
        }
    }

    private static void sweeping() {
        Bench b = new Bench();
        Bench.due("nothing to sweep", b.x.sweep(), 0);
        b.counts(6, 0);
        b.runs("a = [[1], {p: [2]}]; b = {}; [3]; let c = {q: a}; c.me = c;", 0);
        b.counts(0, 7);
        b.x.sync();
        Bench.due("sweep", b.x.sweep(), 2);
        b.counts(0, 5);
        b.counts(4, 8 + 7 * 16 + 12 + 8);
        b.counts(5, 8);
        b.counts(6, 1);
        Bench.due("sweep again", b.x.sweep(), 0);
        b.counts(6, 1);
        b.gives("return a[1].p[0] + size(a[0]);", 3);
        b.runs("b = {back: a}; push(a, b); a = nil;", 0);
        Bench.due("sweep one", b.x.sweep(), 1);
        b.gives("return b.back[2] == b;", 1);
        b.runs("b = nil;", 0);
        Bench.due("sweep all", b.x.sweep(), 5);
        b.counts(0, 0);
        // The sweeps are lost with the COMMITS behind them.
        Bench.due("crash", b.x.crash(7), 0);
        b.counts(0, 7);
        b.gives("return a[1].p[0] + size(b);", 2);
        b.x.sync();
        b.x.sweep();
        b.runs("d = {z: 4};", 0);
        b.gives("return size(a) * 10 + d.z;", 24);
        Bench.due("crash behind a sweep", b.x.crash(8), 1);
        b.counts(0, 5);
        b.roots("d", Bench.NIL);
        b.gives("return size(a) * 10 + size(b);", 20);

        // A chain of all the OBJECTS that there can be.
        Bench c = new Bench();
        c.runs("c = []; let i = 0; while (i < 99) { c = [c]; i = i + 1; }", 0);
        Bench.due("all reached", c.x.sweep(), 0);
        c.runs("c = c[0][0][0];", 0);
        Bench.due("three gone", c.x.sweep(), 3);
        c.runs("c = 1;", 0);
        Bench.due("the rest gone", c.x.sweep(), 97);
        for (int i = 0; i < 9; i++) {
            c.runs("[];", 0);
            Bench.due("one gone", c.x.sweep(), 1);
        }
        c.counts(6, 8);
        c.counts(5, 4 * 24 + 4 * 8);
    }

    private static void counting() {
        Bench b = new Bench();
        b.runs("fun f(a) { return a; } fun g() {} a = {}; b = []; c = 1; [f(2)];", 0);
        b.counts(0, 3);
        b.counts(1, 3);
        b.counts(2, 2);
        b.counts(3, 7);
        b.counts(4, 8 + 48 + 18 + 21);
        b.counts(5, 8 + 48 + 18 + 21);
        b.counts(6, 1);
        b.counts(7, 6);
        b.counts(8, StowTongue.REFUSED);
        b.counts(-1, StowTongue.REFUSED);
        b.counts(Integer.MIN_VALUE, StowTongue.REFUSED);
        b.counts(Integer.MAX_VALUE, StowTongue.REFUSED);
        b.runs("a", 101);
        b.counts(7, 6);
        Bench.due("run(2001)", b.x.run(2001), StowTongue.REFUSED);
        b.counts(7, 6);
        b.x.crash(0);
        b.counts(7, 6);
        b.counts(2, 0);
    }
}
