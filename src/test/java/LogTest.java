/** Terms: THE LOG, what a COMMIT and a sweep write, and what waits behind what is SAFE. */
final class LogTest {
    public static void main(String[] args) {
        eachProgram();
        objects();
        objectsOfManyParts();
        roots();
        tokens();
        most();
        sweeps();
        waiting();
        sweepsWait();
        Bench.finish();
    }

    private static void eachProgram() {
        Bench.says("each program without ERROR writes a COMMIT (if FUNCTIONS, ROOTS, OBJECTS are as before: too):"
                + " 8 bytes");
        Bench b = new Bench();
        b.writes("", 8);
        b.counts(6, 1);
        b.writes("print 1; return 2;", 8);
        b.counts(6, 2);
        b.writes("a = nil;", 8);
        b.counts(6, 3);
        b.counts(4, 24);
        for (String none : new String[] {"abort;", "a = 1; 1 / 0;", "fun f() {} x();", "a", "a = ;"}) {
            b.run(none, 100);
            b.counts(4, 24);
            b.counts(6, 3);
        }
        Bench.due("run(-1)", b.run("a = 1;", -1), StowTongue.REFUSED);
        b.counts(4, 24);
        b.counts(6, 3);
    }

    private static void objects() {
        Bench.says("16 for each OBJECT that was not there before, or is not the same in all its FIELDS, or ITEMS (in"
                + " their order)");
        Bench b = new Bench();
        b.writes("[];", 8 + 16);
        b.writes("return {};", 8 + 16);
        b.writes("[[], {}];", 8 + 3 * 16);
        b.writes("r = {p: 1, q: 2}; w = [1, 2];", 8 + 2 * 16 + 2 * 6);
        b.writes("r.p = 1; w[0] = 1;", 8);
        b.writes("r.p = 5; w[0] = 5; r.p = 1; w[0] = 1;", 8);
        b.writes("r.p = 5;", 8 + 16);
        b.writes("r.p = 6; r.q = 7; r.s = 8;", 8 + 16);
        b.writes("r.s = nil;", 8 + 16);
        b.writes("r.s = nil;", 8);
        b.writes("r.p = \"6\";", 8 + 16);
        b.writes("r.p = 5; r.q = 2;", 8 + 16);
        b.writes("push(w, 3); pop(w);", 8);
        b.writes("push(w, 3);", 8 + 16);
        b.writes("pop(w); push(w, 4);", 8 + 16);
        b.writes("pop(w);", 8 + 16);
        b.writes("w[0] = 2; w[1] = 1;", 8 + 16);
        b.writes("w[1] = nil;", 8 + 16);
        b.writes("pop(w); push(w, nil);", 8);
        b.writes("pop(w);", 8 + 16);
        // The order of the FIELDS counts, too.
        b.writes("r.p = nil; r.p = 5;", 8 + 16);
        b.writes("r.q = nil; r.q = 2;", 8 + 16);
        b.writes("r.q = nil; r.q = 2;", 8);
        // An OBJECT is the same when only what lies in one of its OBJECTS is another.
        b.writes("r.w = w; w[0] = r;", 8 + 2 * 16);
        b.writes("w[0].w[0].p = 9;", 8 + 16);
        b.writes("push(w, []); push(w, []);", 8 + 3 * 16);
        b.writes("let t = w[1]; w[1] = w[2]; w[2] = t;", 8 + 16);
        b.writes("w[1] = [];", 8 + 2 * 16);
    }

    /** A change anywhere counts, in the first part as in the last. */
    private static void objectsOfManyParts() {
        Bench.says("or is not the same in all its FIELDS, or ITEMS (in their order)");
        Bench b = new Bench();
        b.runs("w = [" + Bench.list(20, "1") + "]; r = {" + Bench.fields(8) + "};", 0);
        for (int i : new int[] {0, 1, 10, 18, 19}) {
            b.writes("w[" + i + "] = 2;", 24);
            b.writes("w[" + i + "] = 2;", 8);
        }
        for (int i : new int[] {1, 2, 7, 8}) {
            b.writes("r.f" + i + " = 2;", 24);
            b.writes("r.f" + i + " = 2;", 8);
        }
        b.writes("w[19] = \"abcdefghijklmnop\";", 24);
        b.writes("w[19] = \"abcdefghijklmnoq\";", 24);
        b.writes("w[19] = \"abcdefghijklmno\" + \"q\";", 8);
        b.writes("w[0] = 3; w[1] = 3; r.f1 = 3; r.f8 = 3;", 8 + 32);
    }

    private static void roots() {
        Bench.says("6 for each ROOT that has another VALUE than before");
        Bench b = new Bench();
        b.writes("a = 1;", 14);
        b.writes("a = 1;", 8);
        b.writes("a = 2; a = 1;", 8);
        b.writes("a = nil; a = 1;", 8);
        b.writes("a = \"1\";", 14);
        b.writes("a = nil;", 14);
        b.writes("a = nil;", 8);
        b.writes("z = nil;", 8);
        b.writes("z = 1; z = nil;", 8);
        b.writes("a = 1; b = 2; c = \"x\";", 8 + 18);
        b.writes("a = 2; b = 1;", 8 + 12);
        b.writes("a = nil; b = nil; b = 1; a = 2;", 8);
        b.writes("a = nil; d = 4; c = \"xx\";", 8 + 18);
        b.writes("r = {}; w = []; v = w;", 8 + 32 + 18);
        b.writes("r.p = 1; push(w, 2);", 8 + 32);
        b.writes("v = [];", 8 + 16 + 6);
        b.writes("let t = r; r = w; w = t;", 8 + 12);
        b.writes("let t = 1; t = 2;", 8);
        // All that there can be, taken away and given at once.
        Bench c = new Bench();
        c.writes("a=1;b=1;c=1;d=1;e=1;f=1;g=1;h=1;i=1;j=1;k=1;l=1;", 8 + 72);
        c.writes("a=2;b=2;c=2;d=2;e=2;f=2;g=2;h=2;i=2;j=2;k=2;l=2;", 8 + 72);
        c.writes("a=nil;m=1;b=nil;n=1;", 8 + 24);
    }

    private static void tokens() {
        Bench.says("3 for each token of the BLOCKS of FUNCTIONS told in it, as often as told");
        Bench b = new Bench();
        b.writes("fun f() {}", 8 + 6);
        b.writes("fun f() {}", 8 + 6);
        b.writes("fun f(a, b) { return a + b; } fun f() {}", 8 + 3 * (7 + 2));
        b.writes("fun f() {} fun g() {} fun f() {} fun g() {}", 8 + 24);
        b.writes("fun g() { return \"a b\"; } a = 1; [];", 8 + 15 + 6 + 16);
        b.writes("g();", 8);
        int before = b.count(4);
        b.runs("fun g() { a; } abort;", 10);
        b.counts(4, before);
    }

    /** The most that one COMMIT can write of OBJECTS, ROOTS and tokens. */
    private static void most() {
        Bench.says("8 bytes, 16 for each OBJECT");
        Bench b = new Bench();
        b.writes("let y = 0; while (y < 100) { w = [w]; y = y + 1; }"
                + "a=1;b=1;c=1;d=1;e=1;f=1;g=1;h=1;i=1;j=1;k=1; fun f() {" + Bench.times(199, "a;") + "}",
                8 + 1600 + 72 + 1200);
        b.counts(5, 2880);
        Bench.due("crash(2879)", b.crash(2879), 0);
        b.counts(4, 0);
    }

    private static void sweeps() {
        Bench.says("A sweep (of one OBJECT at least) writes 8.");
        Bench b = new Bench();
        Bench.due("sweep of none", b.sweep(), 0);
        b.counts(4, 0);
        b.counts(6, 0);
        b.runs("a = [];", 0);
        Bench.due("sweep of none", b.sweep(), 0);
        b.counts(4, 30);
        b.counts(6, 1);
        b.runs("[];", 0);
        b.counts(4, 54);
        Bench.due("sweep of one", b.sweep(), 1);
        b.counts(4, 62);
        b.counts(5, 62);
        b.counts(6, 3);
        b.runs("[]; []; [];", 0);
        Bench.due("sweep of three", b.sweep(), 3);
        b.counts(4, 62 + 56 + 8);
        // What was swept is not there before: an OBJECT in its place is another.
        b.writes("[];", 24);
        b.writes("a;", 8);
    }

    private static void waiting() {
        Bench.says("SAFE is what was synced; behind it up to 8 COMMITS and sweeps wait (one more: the oldest is SAFE by"
                + " itself)");
        for (int many = 1; many <= 30; many++) {
            Bench b = new Bench();
            for (int i = 1; i <= many; i++) {
                b.runs("a = " + i + ";", 0);
            }
            int waits = Math.min(many, 8);
            b.counts(6, waits);
            b.counts(5, 14 * waits);
            b.counts(4, 14 * many);
            b.runs("a = 99; [7]; abort;", 10);
            int left = many % 9;
            Bench.due("crash", b.crash(14 * left + 13), Math.min(left, waits));
            int now = many - waits + Math.min(left, waits);
            b.roots("a", now == 0 ? Bench.NIL : now);
            b.counts(0, 0);
            b.counts(4, 14 * now);
            b.counts(5, 0);
        }
        // The oldest takes its own bytes along, whatever the others have.
        Bench b = new Bench();
        b.runs("a = [[]];", 0);
        for (int i = 0; i < 7; i++) {
            b.runs("", 0);
        }
        b.counts(5, 46 + 56);
        b.counts(6, 8);
        b.runs("b = 1;", 0);
        b.counts(4, 46 + 56 + 14);
        b.counts(5, 56 + 14);
        b.counts(6, 8);
        Bench.due("crash(0)", b.crash(0), 0);
        b.roots("a", Bench.ROW);
        b.roots("b", Bench.NIL);
        b.counts(4, 46);
    }

    private static void sweepsWait() {
        Bench.says("behind it up to 8 COMMITS and sweeps wait (one more: the oldest is SAFE by itself)");
        Bench b = new Bench();
        for (int i = 0; i < 4; i++) {
            b.runs("[];", 0);
            Bench.due("sweep", b.sweep(), 1);
        }
        b.counts(6, 8);
        b.counts(5, 4 * 32);
        b.runs("[]; [];", 0);
        b.counts(6, 8);
        b.counts(5, 4 * 32 + 40 - 24);
        Bench.due("sweep, a tenth", b.sweep(), 2);
        b.counts(6, 8);
        b.counts(5, 3 * 32 + 48);
        b.counts(4, 4 * 32 + 48);
        Bench.due("a sweep of none moves nothing", b.sweep(), 0);
        b.counts(6, 8);
        Bench.due("crash", b.crash(24), 1);
        b.counts(0, 1);
        b.counts(4, 32 + 24);
    }
}
