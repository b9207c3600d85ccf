/** The promises 1 to 11, call by call: their ordinary answers, their edges, and what is refused. */
final class PromisesTest {
    public static void main(String[] args) {
        newObject();
        twoObjects();
        manyCalls();
        feed();
        feedBytes();
        end();
        emptying();
        run();
        runWithFault();
        value();
        valueStays();
        octetOfNone();
        octet();
        octetStays();
        root();
        rootNames();
        sync();
        crashBytes();
        crashRefused();
        crashLeaves();
        sweep();
        sweepReach();
        sweepLost();
        count();
        countOfFuel();
        Bench.finish();
    }

    private static void newObject() {
        Bench.says("StowTongue(): Nothing is stored.");
        Bench b = new Bench();
        for (int what = 0; what <= 7; what++) {
            b.counts(what, 0);
        }
        Bench.due("value()", b.value(), Bench.NIL);
        Bench.due("octet(-1)", b.octet(-1), 0);
        Bench.due("octet(0)", b.octet(0), StowTongue.NONE);
        Bench.due("root()", b.root(), Bench.NIL);
        Bench.due("end(0)", b.end(0), 0);
        Bench.due("end(1)", b.end(1), StowTongue.REFUSED);
        Bench.due("sync()", b.sync(), 0);
        Bench.due("crash(0)", b.crash(0), 0);
        Bench.due("crash(9)", b.crash(9), 0);
        Bench.due("sweep()", b.sweep(), 0);
        b.counts(4, 0);
        b.counts(6, 0);
        b.runs("return a;", 0);
        b.runs("f();", 6);
        Bench.due("run(0) of nothing", new Bench().run(0), 0);
    }

    private static void twoObjects() {
        Bench.says("StowTongue(): Nothing is stored.");
        Bench b = new Bench();
        b.runs("a = [1]; fun f() {} print 1; return 2;", 0);
        b.type("a");
        Bench other = new Bench();
        for (int what = 0; what <= 7; what++) {
            other.counts(what, 0);
        }
        Bench.due("end(1)", other.end(1), StowTongue.REFUSED);
        Bench.due("octet(-1)", other.octet(-1), 0);
        Bench.due("value()", other.value(), Bench.NIL);
        other.runs("a = 3; f();", 6);
        Bench.due("root()", b.root(), Bench.ROW);
    }

    private static void manyCalls() {
        Bench.says("An object is used for at most 512 calls after it has been made; what later calls answer is free.");
        Bench b = new Bench();
        int i = 0;
        while (b.calls() + 5 <= Bench.MOST_CALLS) {
            i++;
            b.runs("a = [" + i + "];", 0);
            Bench.due("sweep", b.sweep(), i == 1 ? 0 : 1);
            b.counts(0, 1);
        }
        while (b.calls() < Bench.MOST_CALLS) {
            b.counts(4, 30 * i + 8 * (i - 1));
        }
        // Later ones may answer what they like, but they answer.
        StowTongue x = new StowTongue();
        for (int k = 0; k < 3000; k++) {
            x.feed(0x613D5B61, 0x2C315D3B, 0x20202020, 0x20202020, 0x20202020); // a=[a,1];
            x.run(2000);
            x.value();
            x.octet(k);
            x.root();
            x.sweep();
            x.count(k % 9);
            x.crash(k % 50);
            x.sync();
        }
    }

    private static void feed() {
        Bench.says("Twenty bytes, five times four, the highest of each first, come to the TAPE: how many it has; FULL"
                + " if it would have more than 1500.");
        Bench b = new Bench();
        for (int i = 1; i <= 75; i++) {
            Bench.due("feed " + i, b.feed(-1, 0, 1, 2, 3), 20 * i);
        }
        Bench.due("feed 76", b.feed(0, 0, 0, 0, 0), StowTongue.FULL);
        Bench.due("feed 77", b.feed(0, 0, 0, 0, 0), StowTongue.FULL);
        Bench.due("end(1501)", b.end(1501), StowTongue.REFUSED);
        Bench.due("end(1500)", b.end(1500), 1500);
        Bench.due("end(1481)", b.end(1481), 1481);
        Bench.due("feed at 1481", b.feed(0, 0, 0, 0, 0), StowTongue.FULL);
        Bench.due("end(1482)", b.end(1482), StowTongue.REFUSED);
        Bench.due("end(1480)", b.end(1480), 1480);
        Bench.due("feed at 1480", b.feed(0, 0, 0, 0, 0), 1500);
        Bench.due("end(1479)", b.end(1479), 1479);
        Bench.due("feed at 1479", b.feed(0, 0, 0, 0, 0), 1499);
        Bench.due("feed at 1499", b.feed(0, 0, 0, 0, 0), StowTongue.FULL);
        Bench.due("end(1499)", b.end(1499), 1499);
    }

    private static void feedBytes() {
        Bench.says("Twenty bytes, five times four, the highest of each first, come to the TAPE");
        Bench b = new Bench();
        Bench.due("feed", b.feed(0x7072696E, 0x74202261, 0x62636465, 0x66676869, 0x6A6B223B), 20);
        Bench.due("run", b.run(1), 0);
        b.outIs("abcdefghijk\n");
        // Each byte by itself, at each of the twenty places.
        for (int place = 0; place < 20; place++) {
            for (int bad : new int[] {0x00, 0x7F, 0x80, 0xFF, 0x40}) {
                int[] words = new int[5];
                for (int i = 0; i < 20; i++) {
                    words[i / 4] |= (i == place ? bad : 0x20) << (24 - 8 * (i % 4));
                }
                Bench c = new Bench();
                c.feed(words[0], words[1], words[2], words[3], words[4]);
                Bench.due("run with byte " + bad + " at " + place, c.run(1), 100 + place);
            }
        }
        // A FULL feed leaves the TAPE as it is.
        Bench d = new Bench();
        d.type(Bench.times(740, "a;") + "return 7;");
        Bench.due("feed at 1489", d.feed(-1, -1, -1, -1, -1), StowTongue.FULL);
        Bench.due("run", d.run(2000), 0);
        Bench.due("value", d.value(), 7);
    }

    private static void end() {
        Bench.says("The TAPE is cut to its first n bytes: n; REFUSED if it has less, or n is below 0.");
        Bench b = new Bench();
        Bench.due("end(-1)", b.end(-1), StowTongue.REFUSED);
        Bench.due("end(0)", b.end(0), 0);
        Bench.due("end(1)", b.end(1), StowTongue.REFUSED);
        b.feed(0x61203D20, 0x31323B20, 0x62203D20, 0x3334353B, 0x20202020); // a = 12; b = 345;
        Bench.due("end(21)", b.end(21), StowTongue.REFUSED);
        Bench.due("end(max)", b.end(Integer.MAX_VALUE), StowTongue.REFUSED);
        Bench.due("end(min)", b.end(Integer.MIN_VALUE), StowTongue.REFUSED);
        Bench.due("end(-1)", b.end(-1), StowTongue.REFUSED);
        Bench.due("end(20)", b.end(20), 20);
        Bench.due("end(19)", b.end(19), 19);
        Bench.due("end(20)", b.end(20), StowTongue.REFUSED);
        Bench.due("end(7)", b.end(7), 7);
        Bench.due("end(8)", b.end(8), StowTongue.REFUSED);
        Bench.due("end(7)", b.end(7), 7);
        b.type("c = 6;");
        Bench.due("run", b.run(9), 0);
        b.roots("a", 12);
        b.roots("b", Bench.NIL);
        b.roots("c", 6);
        b.type("a = 1;");
        Bench.due("end(0)", b.end(0), 0);
        Bench.due("run of nothing", b.run(9), 0);
        b.roots("a", 12);
    }

    private static void emptying() {
        Bench.says("calls that read it empty it");
        Bench b = new Bench();
        b.type("a = 1;");
        b.value();
        b.octet(-1);
        b.octet(0);
        b.sync();
        b.crash(5);
        b.crash(-1);
        b.sweep();
        b.count(0);
        b.count(9);
        Bench.due("end(7)", b.end(7), StowTongue.REFUSED);
        Bench.due("end(6)", b.end(6), 6);
        Bench.due("run(2000)", b.run(2000), 0);
        Bench.due("end(1) behind a run", b.end(1), StowTongue.REFUSED);
        b.runs("a +", 103);
        Bench.due("end(1) behind a FAULT", b.end(1), StowTongue.REFUSED);
        b.runs("abort;", 10);
        Bench.due("end(1) behind an ERROR", b.end(1), StowTongue.REFUSED);
        b.runs("fun f() {" + Bench.times(200, "a;") + "}", 8);
        Bench.due("end(1) behind ERROR 8", b.end(1), StowTongue.REFUSED);
        b.roots("a", 1);
        Bench.due("end(1) behind root", b.end(1), StowTongue.REFUSED);
        b.roots("?", Bench.NIL);
        Bench.due("end(1) behind root", b.end(1), StowTongue.REFUSED);
    }

    private static void run() {
        Bench.says("The TAPE as a PROGRAM is done, with fuel (0 to 2000; REFUSED else, the TAPE stays): 0, or its"
                + " ERROR");
        Bench b = new Bench();
        b.runs("print 5; return \"v\";", 0);
        b.type("a = 1;");
        for (int fuel : new int[] {-1, 2001, Integer.MIN_VALUE, Integer.MAX_VALUE}) {
            Bench.due("run(" + fuel + ")", b.run(fuel), StowTongue.REFUSED);
            Bench.due("end(6)", b.end(6), 6);
        }
        b.outIs("5\n");
        b.counts(7, 2);
        Bench.due("value", b.value(), Bench.TEXT);
        b.counts(6, 1);
        b.roots("q", Bench.NIL);
        Bench.due("run(-1) with a FAULT", b.run("a +", -1), StowTongue.REFUSED);
        Bench.due("run(2000) with a FAULT", b.run(2000), 103);
        b.burns("a = 1;", 0, 1, 0);
        b.burns("a = 1;", 1, 0, 1);
        b.burns("a = 1;", 1999, 0, 1);
        b.burns("a = 1;", 2000, 0, 1);
        b.burns("", 0, 0, 0);
        // Every ERROR that there is.
        String[] all = {"while (1) {}", "-nil;", "[][0];", "[" + Bench.list(21, "1") + "];", "1 / 0;", "f();",
            "fun g() { g(); } g();", "while (1) { []; }", "while (1) { print 1; }", "abort;"};
        for (int i = 0; i < all.length; i++) {
            Bench.error(all[i], i + 1);
        }
    }

    private static void runWithFault() {
        Bench.says("its FAULT, plus 100, if it has one (nothing is done). OUT is emptied before, unless it has a"
                + " FAULT.");
        Bench b = new Bench();
        b.runs("print 12; a = 1; return \"x\";", 0);
        b.runs("a = 2; fun f() {} print 3; return 4 5;", 136);
        b.runs("@", 100);
        b.roots("a", 1);
        b.counts(2, 0);
        b.counts(4, 14);
        b.counts(6, 1);
        b.counts(7, 3);
        b.outIs("12\n");
        Bench.due("value", b.value(), Bench.TEXT);
        b.outIs("x");
        b.runs("", 0);
        b.outIs("");
        b.prints("print 1;", "1\n");
        b.runs("abort;", 10);
        b.outIs("");
        Bench.due("run(0) with a FAULT", b.run("a +", 0), 103);
        Bench.fault(Bench.times(10, "fun f() {} ") + "fun g() {" + Bench.times(401, "a;") + "} @", 110 + 9 + 802 + 2);
    }

    private static void value() {
        Bench.says("an int; nil 2^40, a text 2^40 + 1 and its bytes become OUT, a RECORD 2^40 + 2, a ROW 2^40 + 3; nil"
                + " too if it ended with an ERROR, or there was none");
        Bench b = new Bench();
        Bench.due("value of none", b.value(), 1099511627776L);
        b.gives("return -5;", -5);
        b.gives("return 0;", 0);
        b.gives("return 2147483647;", 2147483647);
        b.gives("return 0 - 2147483647 - 1;", -2147483648);
        b.gives("return nil;", 1099511627776L);
        b.gives("1;", 1099511627776L);
        b.gives("return \"\";", 1099511627777L);
        b.gives("return {};", 1099511627778L);
        b.gives("return [1];", 1099511627779L);
        b.runs("print 1; return \"abc\";", 0);
        b.outIs("1\n");
        Bench.due("value", b.value(), Bench.TEXT);
        b.outIs("abc");
        b.runs("print 22; return 7;", 0);
        Bench.due("value", b.value(), 7);
        b.outIs("22\n");
        b.runs("print 22; return [];", 0);
        Bench.due("value", b.value(), Bench.ROW);
        b.outIs("22\n");
        b.runs("print 1; return \"\";", 0);
        Bench.due("value", b.value(), Bench.TEXT);
        b.outIs("");
        b.givesText("return \"abcdefghijklmnop\";", "abcdefghijklmnop");
        b.runs("print 3; abort;", 10);
        Bench.due("value behind an ERROR", b.value(), Bench.NIL);
        b.outIs("3\n");
        b.gives("return 4;", 4);
        b.runs("fun f() {" + Bench.times(200, "a;") + "}", 8);
        Bench.due("value behind ERROR 8", b.value(), Bench.NIL);
        b.gives("return 4;", 4);
        Bench.due("run without fuel", b.run("return 5;", 0), 1);
        Bench.due("value behind ERROR 1", b.value(), Bench.NIL);
    }

    private static void valueStays() {
        Bench.says("What the latest run without a FAULT gave back, as its VALUE (that stays, whatever is swept or lost"
                + " since; each call puts the bytes of a text into OUT anew)");
        Bench b = new Bench();
        b.gives("return [1];", Bench.ROW);
        Bench.due("sweep", b.sweep(), 1);
        Bench.due("value when swept", b.value(), Bench.ROW);
        Bench.due("crash", b.crash(0), 0);
        Bench.due("value when lost", b.value(), Bench.ROW);
        b.gives("a = {b: \"x\"}; return a;", Bench.RECORD);
        Bench.due("crash", b.crash(0), 0);
        Bench.due("value when lost", b.value(), Bench.RECORD);
        b.gives("return \"abc\";", Bench.TEXT);
        b.runs("a +", 103);
        Bench.due("run(-1)", b.run(-1), StowTongue.REFUSED);
        b.crash(0);
        b.sync();
        b.sweep();
        b.roots("a", Bench.NIL);
        Bench.due("value again", b.value(), Bench.TEXT);
        b.outIs("abc");
        Bench.due("value once more", b.value(), Bench.TEXT);
        b.outIs("abc");
    }

    private static void octetOfNone() {
        Bench.says("OUT has bytes, none at first.");
        Bench b = new Bench();
        Bench.due("octet(-2)", b.octet(-2), StowTongue.NONE);
        Bench.due("octet(-1)", b.octet(-1), 0);
        Bench.due("octet(0)", b.octet(0), StowTongue.NONE);
        Bench.due("octet(1)", b.octet(1), StowTongue.NONE);
        b.runs("print", 105);
        Bench.due("octet(-1)", b.octet(-1), 0);
        b.runs("", 0);
        Bench.due("octet(-1)", b.octet(-1), 0);
        b.runs("print \"\";", 0);
        Bench.due("octet(-1)", b.octet(-1), 1);
    }

    private static void octet() {
        Bench.says("Byte k of OUT; for k -1 how many. NONE if there is none (k below -1, too).");
        Bench b = new Bench();
        b.runs("print \"ab\";", 0);
        Bench.due("octet(-2)", b.octet(-2), StowTongue.NONE);
        Bench.due("octet(-1)", b.octet(-1), 3);
        Bench.due("octet(0)", b.octet(0), 'a');
        Bench.due("octet(1)", b.octet(1), 'b');
        Bench.due("octet(2)", b.octet(2), 10);
        Bench.due("octet(3)", b.octet(3), StowTongue.NONE);
        Bench.due("octet(max)", b.octet(Integer.MAX_VALUE), StowTongue.NONE);
        Bench.due("octet(min)", b.octet(Integer.MIN_VALUE), StowTongue.NONE);
        // What a longer OUT had before is not there any more.
        b.runs("print \"x\";", 0);
        Bench.due("octet(2)", b.octet(2), StowTongue.NONE);
        // The longest OUT that there can be.
        b.runs("let i = 0; while (i < 300) { print i % 10; i = i + 1; }", 0);
        b.outEnds(600, "8\n9\n");
        Bench.due("octet(601)", b.octet(601), StowTongue.NONE);
        Bench.due("octet(0)", b.octet(0), '0');
        Bench.due("octet(599)", b.octet(599), 10);
    }

    private static void octetStays() {
        Bench.says("(TAPE, OUT, value and FUEL stay)");
        Bench b = new Bench();
        b.runs("print \"ab\";", 0);
        b.crash(0);
        b.sync();
        b.sweep();
        b.count(1);
        b.roots("a", Bench.NIL);
        b.value();
        b.type("a");
        b.outIs("ab\n");
        b.end(0);
        b.runs("a;", 0);
        Bench.due("OUT is emptied", b.octet(-1), 0);
    }

    private static void root() {
        Bench.says("What the ROOT has whose name the TAPE is: as value (but OUT stays: a text is 2^40 + 1 and 8 times"
                + " how many signs it has; nil if the TAPE is the name of none)");
        Bench b = new Bench();
        b.runs("a = 1; b = 0 - 2147483647 - 1; c = 2147483647; d = {}; e = []; n = -3; z = 0; let l = 5; print 7;", 0);
        b.roots("a", 1);
        b.roots("b", -2147483648L);
        b.roots("c", 2147483647);
        b.roots("d", Bench.RECORD);
        b.roots("e", Bench.ROW);
        b.roots("n", -3);
        b.roots("z", 0);
        b.roots("l", Bench.NIL);
        b.roots("x", Bench.NIL);
        b.roots("", Bench.NIL);
        b.outIs("7\n");
        b.counts(6, 1);
        b.runs("a = nil;", 0);
        b.roots("a", Bench.NIL);
        b.runs("a = 9; abort;", 10);
        b.roots("a", Bench.NIL);
        Bench c = new Bench();
        c.runs("print 7;", 0);
        for (int signs = 0; signs <= 16; signs++) {
            Bench.due("run", c.run("s = \"" + Bench.times(signs, "~") + "\"; print 8;", 9), 0);
            c.roots("s", Bench.NIL + 1 + 8 * signs);
            c.outIs("8\n");
        }
    }

    private static void rootNames() {
        Bench.says("nil if the TAPE is the name of none");
        Bench b = new Bench();
        b.runs("a = 1; abcdefg = 2; abcdefgh = 3; a0 = 4; fun f() {} r = {p: 1};", 0);
        b.roots("abcdefg", 2);
        b.roots("abcdefgh", 3);
        b.roots("abcdefghi", Bench.NIL);
        b.roots("abcdefghabcdefgh", Bench.NIL);
        b.roots("abcdef", Bench.NIL);
        b.roots("a0", 4);
        b.roots("0a", Bench.NIL);
        b.roots("aa", Bench.NIL);
        b.roots("A", Bench.NIL);
        b.roots("a ", Bench.NIL);
        b.roots(" a", Bench.NIL);
        b.roots("a\n", Bench.NIL);
        b.roots("a\0", Bench.NIL);
        b.roots("a;", Bench.NIL);
        b.roots("f", Bench.NIL);
        b.roots("p", Bench.NIL);
        b.roots("r.p", Bench.NIL);
        b.roots("while", Bench.NIL);
        b.roots("nil", Bench.NIL);
        b.roots("\341", Bench.NIL);
        b.roots(Bench.times(1500, "a"), Bench.NIL);
        b.roots("a", 1);
    }

    private static void sync() {
        Bench.says("All that waits is SAFE: how many COMMITS and sweeps waited.");
        Bench b = new Bench();
        Bench.due("sync of none", b.sync(), 0);
        for (int many = 1; many <= 10; many++) {
            for (int i = 0; i < many; i++) {
                b.runs("a = " + i + ";", 0);
            }
            Bench.due("sync of " + many, b.sync(), Math.min(many, 8));
            b.counts(5, 0);
            b.counts(6, 0);
            Bench.due("sync again", b.sync(), 0);
            Bench.due("crash", b.crash(0), 0);
            b.roots("a", many - 1);
        }
        Bench c = new Bench();
        c.runs("[];", 0);
        Bench.due("sweep", c.sweep(), 1);
        Bench.due("sync of both", c.sync(), 2);
        c.runs("a = 3; b = 1; fun f() {} [];", 0);
        c.counts(4, 32 + 42);
        c.counts(5, 42);
        Bench.due("crash", c.crash(41), 0);
        c.roots("a", Bench.NIL);
        c.counts(0, 0);
        c.counts(2, 0);
        c.counts(4, 32);
        c.runs("abort;", 10);
        c.runs("@", 100);
        Bench.due("sync of none", c.sync(), 0);
    }

    private static void crashBytes() {
        Bench.says("of what waits only those are left that lie whole in the first n bytes of the log behind what is"
                + " SAFE, and these are SAFE then");
        for (int n = 0; n <= 60; n++) {
            Bench b = new Bench();
            b.runs("o = {p: 1};", 0);
            b.sync();
            b.runs("o.p = 2;", 0);
            b.runs("", 0);
            b.runs("fun f() {} o = 3;", 0);
            int left = n < 24 ? 0 : n < 32 ? 1 : n < 52 ? 2 : 3;
            Bench.due("crash(" + n + ")", b.crash(n), left);
            b.roots("o", left == 3 ? 3 : Bench.RECORD);
            b.counts(2, left == 3 ? 1 : 0);
            b.counts(3, left == 3 ? 2 : 0);
            b.counts(4, 30 + (left == 0 ? 0 : left == 1 ? 24 : left == 2 ? 32 : 52));
            b.counts(5, 0);
            b.counts(6, 0);
            if (left < 3) {
                b.gives("return o.p;", left == 0 ? 1 : 2);
            }
            Bench.due("crash once more", b.crash(Integer.MAX_VALUE), left < 3 ? 1 : 0);
        }
        // A small one behind a great one that is lost is lost, too.
        Bench b = new Bench();
        b.runs("a = [[]];", 0);
        b.runs("", 0);
        Bench.due("crash(45)", b.crash(45), 0);
        b.counts(4, 0);
    }

    private static void crashRefused() {
        Bench.says("REFUSED if n is below 0.");
        Bench b = new Bench();
        b.runs("a = 1;", 0);
        Bench.due("crash(-1)", b.crash(-1), StowTongue.REFUSED);
        Bench.due("crash(min)", b.crash(Integer.MIN_VALUE), StowTongue.REFUSED);
        b.counts(6, 1);
        b.roots("a", 1);
        Bench.due("crash(max)", b.crash(Integer.MAX_VALUE), 1);
        b.counts(6, 0);
        b.roots("a", 1);
        b.runs("a = 2;", 0);
        Bench.due("crash(0)", b.crash(0), 0);
        b.roots("a", 1);
    }

    private static void crashLeaves() {
        Bench.says("ROOTS, OBJECTS and FUNCTIONS are as they were before the others (TAPE, OUT, value and FUEL stay):"
                + " how many are left");
        Bench b = new Bench();
        b.runs("a = [1]; fun f() { return 1; }", 0);
        b.sync();
        b.runs("print 9; push(a, 2); b = {c: a}; fun f() { return 2; } fun g() {} return \"v\";", 0);
        b.type("a;");
        Bench.due("crash", b.crash(3), 0);
        Bench.due("the TAPE stays", b.end(3), StowTongue.REFUSED);
        Bench.due("the TAPE stays", b.end(2), 2);
        b.outIs("9\n");
        b.counts(7, 4);
        Bench.due("value", b.value(), Bench.TEXT);
        Bench.due("run of the TAPE", b.run(9), 0);
        b.counts(0, 1);
        b.counts(1, 1);
        b.counts(2, 1);
        b.gives("return f() * 10 + size(a);", 11);
        // The FIELDS and ITEMS of before, and their places.
        Bench c = new Bench();
        c.runs("r = {p: 1, q: 2}; w = [1, 2];", 0);
        c.sync();
        c.runs("r.p = nil; r.p = 1; w[0] = 2; w[1] = 1; pop(w);", 0);
        Bench.due("crash", c.crash(39), 0);
        c.writes("r.q = nil; r.q = 2; w[0] = 1; w[1] = 2;", 8);
    }

    private static void sweep() {
        Bench.says("OBJECTS that can not be reached from ROOTS go: how many.");
        Bench b = new Bench();
        Bench.due("sweep of none", b.sweep(), 0);
        b.runs("a = [[1], {p: [2]}]; b = {}; [3]; let c = {q: a}; c.me = c;", 0);
        b.counts(0, 7);
        Bench.due("sweep", b.sweep(), 2);
        b.counts(0, 5);
        Bench.due("sweep again", b.sweep(), 0);
        b.gives("return a[1].p[0] + size(a[0]);", 3);
        b.runs("b = {back: a}; push(a, b); a = nil;", 0);
        Bench.due("sweep of one", b.sweep(), 1);
        b.gives("return b.back[2] == b;", 1);
        b.runs("b = nil;", 0);
        Bench.due("sweep of all", b.sweep(), 5);
        b.counts(0, 0);
        b.counts(1, 0);
        // All that there can be, reached or not.
        Bench c = new Bench();
        c.runs("c = []; let i = 0; while (i < 99) { c = [c]; i = i + 1; }", 0);
        Bench.due("all reached", c.sweep(), 0);
        c.runs("c = c[0];", 0);
        Bench.due("one gone", c.sweep(), 1);
        c.runs("c = c[0][0][0];", 0);
        Bench.due("three gone", c.sweep(), 3);
        c.runs("c = 1;", 0);
        Bench.due("the rest gone", c.sweep(), 96);
        c.runs("let i = 0; while (i < 100) { {} []; i = i + 1; }", 0);
        Bench.due("all gone", c.sweep(), 100);
    }

    /** From each ROOT, by the first and the last of FIELDS and ITEMS. */
    private static void sweepReach() {
        Bench.says("OBJECTS that can not be reached from ROOTS go: how many.");
        Bench b = new Bench();
        b.runs("a = [" + Bench.list(19, "1") + ", [2]]; b = [[3], 1]; c = {" + Bench.fields(7) + ", z: [4]};"
                + " d = {z: [5], y: 1};", 0);
        Bench.due("all reached", b.sweep(), 0);
        b.gives("return a[19][0] * 1000 + b[0][0] * 100 + c.z[0] * 10 + d.z[0];", 2345);
        b.runs("pop(a); b[0] = nil; c.z = nil; d.z = nil;", 0);
        Bench.due("four gone", b.sweep(), 4);
        Bench c = new Bench();
        c.runs("a=[];b=[];c=[];d=[];e=[];f=[];g=[];h=[];i=[];j=[];k=[];l=[];", 0);
        Bench.due("all reached", c.sweep(), 0);
        c.runs("l = a; a = nil;", 0);
        Bench.due("one gone", c.sweep(), 1);
        c.counts(0, 11);
        // LOCALS, FUNCTIONS and the VALUE do not reach.
        Bench d = new Bench();
        d.runs("fun f() { return []; } let x = f(); return x;", 0);
        Bench.due("gone", d.sweep(), 1);
        Bench.due("value", d.value(), Bench.ROW);
    }

    private static void sweepLost() {
        Bench.says("ROOTS, OBJECTS and FUNCTIONS are as they were before the others");
        Bench b = new Bench();
        b.runs("a = [[1], {p: [2]}]; b = {}; [3]; [4];", 0);
        b.sync();
        Bench.due("sweep", b.sweep(), 2);
        b.runs("b = nil; a = nil;", 0);
        Bench.due("sweep", b.sweep(), 5);
        Bench.due("crash", b.crash(7), 0);
        b.counts(0, 7);
        b.gives("return a[1].p[0] + size(b);", 2);
        b.sync();
        Bench.due("sweep", b.sweep(), 2);
        b.runs("d = {z: 4};", 0);
        b.gives("return size(a) * 10 + d.z;", 24);
        Bench.due("crash behind a sweep", b.crash(8), 1);
        b.counts(0, 5);
        b.roots("d", Bench.NIL);
        b.gives("return size(a) * 10 + size(b);", 20);
    }

    private static void count() {
        Bench.says("What 0: OBJECTS, 1: ROOTS, 2: FUNCTIONS, 3: tokens of all FUNCTIONS, 4: bytes of the log since the"
                + " beginning (what was lost does not count), 5: of them not SAFE, 6: COMMITS and sweeps that wait");
        Bench b = new Bench();
        b.runs("fun f(a) { return a; } fun g() {} a = {}; b = []; c = 1; [f(2)];", 0);
        int bytes = 8 + 48 + 18 + 21;
        int[] due = {3, 3, 2, 7, bytes, bytes, 1, 6};
        for (int what = 0; what <= 7; what++) {
            b.counts(what, due[what]);
        }
        Bench.says("REFUSED for others.");
        b.counts(8, StowTongue.REFUSED);
        b.counts(-1, StowTongue.REFUSED);
        b.counts(Integer.MIN_VALUE, StowTongue.REFUSED);
        b.counts(Integer.MAX_VALUE, StowTongue.REFUSED);
        Bench.says("4: bytes of the log since the beginning (what was lost does not count), 5: of them not SAFE");
        b.sync();
        b.runs("d = 1;", 0);
        b.runs("d = 2;", 0);
        b.counts(4, bytes + 28);
        b.counts(5, 28);
        b.counts(6, 2);
        Bench.due("crash", b.crash(14), 1);
        b.counts(4, bytes + 14);
        b.counts(5, 0);
        b.counts(6, 0);
        b.runs("d = 3;", 0);
        b.counts(4, bytes + 28);
        b.counts(5, 14);
        b.counts(6, 1);
    }

    private static void countOfFuel() {
        Bench.says("7: FUEL that the latest run without a FAULT took (all that there was, with ERROR 1)");
        Bench b = new Bench();
        b.counts(7, 0);
        b.burns("a; b;", 9, 0, 2);
        b.runs("a", 101);
        b.counts(7, 2);
        Bench.due("run(2001)", b.run(2001), StowTongue.REFUSED);
        Bench.due("run(-1)", b.run(-1), StowTongue.REFUSED);
        b.crash(0);
        b.sync();
        b.sweep();
        b.counts(7, 2);
        b.burns("a; b; c; abort; d;", 9, 10, 4);
        b.burns("a; b; c; d;", 3, 1, 3);
        b.burns("a;", 0, 1, 0);
        b.burns("while (1) {}", 2000, 1, 2000);
        b.burns("fun f() {" + Bench.times(200, "a;") + "}", 2000, 8, 0);
        b.burns("", 2000, 0, 0);
    }
}
