/** Promises 5, 6 and 7: value, octet, root. */
final class AnswerTest {
    public static void main(String[] args) {
        values();
        octets();
        roots();
        Bench.finish();
    }

    private static void values() {
        Bench b = new Bench();
        b.gives("return -5;", -5);
        b.gives("return 2147483647;", 2147483647);
        b.gives("return nil;", Bench.NIL);
        b.gives("return {};", Bench.RECORD);
        b.gives("1;", Bench.NIL);
        b.gives("return [1];", Bench.ROW);
        Bench.due("sweep", b.x.sweep(), 2);
        Bench.due("value when swept", b.x.value(), Bench.ROW);
        b.x.crash(0);
        Bench.due("value when lost", b.x.value(), Bench.ROW);

        b.runs("print 1; return \"abc\";", 0);
        Bench.due("out ahead of value", b.out(), "1\n");
        Bench.due("value", b.x.value(), Bench.TEXT);
        Bench.due("out behind value", b.out(), "abc");
        b.runs("a +", 103);
        Bench.due("value behind a FAULT", b.x.value(), Bench.TEXT);
        Bench.due("run(-1)", b.x.run(-1), StowTongue.REFUSED);
        Bench.due("value behind REFUSED", b.x.value(), Bench.TEXT);
        b.runs("print 22; return 7;", 0);
        Bench.due("value", b.x.value(), 7);
        Bench.due("an int leaves out alone", b.out(), "22\n");
        b.runs("print 1; return \"\";", 0);
        Bench.due("value", b.x.value(), Bench.TEXT);
        Bench.due("no sign", b.out(), "");
        b.runs("abort;", 10);
        Bench.due("value behind an ERROR", b.x.value(), Bench.NIL);
        b.gives("return 4;", 4);
        Bench.due("too many functions", b.run("fun f() {" + Bench.times(200, "a;") + "}", 5), 8);
        Bench.due("value behind ERROR 8", b.x.value(), Bench.NIL);
    }

    private static void octets() {
        Bench b = new Bench();
        b.runs("print \"ab\";", 0);
        Bench.due("octet(-1)", b.x.octet(-1), 3);
        Bench.due("octet(0)", b.x.octet(0), 'a');
        Bench.due("octet(1)", b.x.octet(1), 'b');
        Bench.due("octet(2)", b.x.octet(2), 10);
        Bench.due("octet(3)", b.x.octet(3), StowTongue.NONE);
        Bench.due("octet(-2)", b.x.octet(-2), StowTongue.NONE);
        Bench.due("octet(max)", b.x.octet(Integer.MAX_VALUE), StowTongue.NONE);
        Bench.due("octet(min)", b.x.octet(Integer.MIN_VALUE), StowTongue.NONE);
        b.x.crash(0);
        b.x.sync();
        b.x.sweep();
        Bench.due("out stays", b.out(), "ab\n");
        b.runs("a;", 0);
        Bench.due("out is emptied", b.x.octet(-1), 0);
    }

    private static void roots() {
        Bench b = new Bench();
        b.runs("a = 1; b2 = \"\"; longname = \"abcdefghijklmnop\"; d = {}; e = []; n = -3;"
                + " s = \"xyz\"; let l = 5; print 7;", 0);
        b.roots("a", 1);
        b.roots("b2", Bench.TEXT);
        b.roots("longname", Bench.TEXT + 8 * 16);
        b.roots("s", Bench.TEXT + 8 * 3);
        b.roots("d", Bench.RECORD);
        b.roots("e", Bench.ROW);
        b.roots("n", -3);
        b.roots("l", Bench.NIL);
        b.roots("z", Bench.NIL);
        b.roots("", Bench.NIL);
        b.roots("a ", Bench.NIL);
        b.roots(" a", Bench.NIL);
        b.roots("a\0", Bench.NIL);
        b.roots("aa", Bench.NIL);
        b.roots("longnamee", Bench.NIL);
        b.runs("aaaaaaaa = 3;", 0);
        b.roots("aaaaaaaa", 3);
        b.roots("aaaaaaaaa", Bench.NIL);
        b.roots("\341", Bench.NIL);
        b.roots("while", Bench.NIL);
        b.runs("print 7;", 0);
        b.roots("s", Bench.TEXT + 8 * 3);
        Bench.due("out stays", b.out(), "7\n");
        b.runs("a = nil;", 0);
        b.roots("a", Bench.NIL);
    }
}
