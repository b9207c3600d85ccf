/** Promises 2 and 3, and which calls empty the tape. */
final class TapeTest {
    public static void main(String[] args) {
        feeding();
        ending();
        emptying();
        Bench.finish();
    }

    private static void feeding() {
        Bench b = new Bench();
        for (int i = 1; i <= 75; i++) {
            Bench.due("feed " + i, b.x.feed(-1, 0, 1, 2, 3), 20 * i);
        }
        Bench.due("feed 76", b.x.feed(0, 0, 0, 0, 0), StowTongue.FULL);
        Bench.due("end(1500)", b.x.end(1500), 1500);
        Bench.due("end(1481)", b.x.end(1481), 1481);
        Bench.due("feed at 1481", b.x.feed(0, 0, 0, 0, 0), StowTongue.FULL);
        Bench.due("end(1480)", b.x.end(1480), 1480);
        Bench.due("feed at 1480", b.x.feed(0, 0, 0, 0, 0), 1500);

        // The highest byte of each comes first, all 20 in their order.
        Bench c = new Bench();
        c.x.feed(0x70726962 + 0x00000C, 0x74202261, 0x62636465, 0x66676869, 0x6A6B223B);
        Bench.due("run of the bytes", c.x.run(1), 0);
        Bench.due("out of the bytes", c.out(), "abcdefghijk\n");

        // Bytes above 127 begin no token, wherever they stand.
        Bench d = new Bench();
        d.x.feed(0x20202080, 0, 0, 0, 0);
        Bench.due("run of byte 128", d.x.run(1), 103);
    }

    private static void ending() {
        Bench b = new Bench();
        Bench.due("end(-1)", b.x.end(-1), StowTongue.REFUSED);
        Bench.due("end(0)", b.x.end(0), 0);
        b.type("a = 12; b = 345;");
        Bench.due("end(17)", b.x.end(17), StowTongue.REFUSED);
        Bench.due("end(min)", b.x.end(Integer.MIN_VALUE), StowTongue.REFUSED);
        Bench.due("end(7)", b.x.end(7), 7);
        Bench.due("end(8)", b.x.end(8), StowTongue.REFUSED);
        b.type("c = 6;");
        Bench.due("run", b.x.run(9), 0);
        b.roots("a", 12);
        b.roots("b", Bench.NIL);
        b.roots("c", 6);
    }

    private static void emptying() {
        Bench b = new Bench();
        b.type("a = 1;");
        b.x.value();
        b.x.octet(-1);
        b.x.sync();
        b.x.crash(5);
        b.x.sweep();
        b.x.count(0);
        Bench.due("run(-1)", b.x.run(-1), StowTongue.REFUSED);
        Bench.due("run(2001)", b.x.run(2001), StowTongue.REFUSED);
        Bench.due("end(6)", b.x.end(6), 6);
        Bench.due("run(2000)", b.x.run(2000), 0);
        Bench.due("end(1) behind a run", b.x.end(1), StowTongue.REFUSED);
        b.type("a +");
        Bench.due("run with a FAULT", b.x.run(0), 103);
        Bench.due("end(1) behind a FAULT", b.x.end(1), StowTongue.REFUSED);
        b.type("abort;");
        Bench.due("run with an ERROR", b.x.run(9), 10);
        Bench.due("end(1) behind an ERROR", b.x.end(1), StowTongue.REFUSED);
        b.roots("a", 1);
        Bench.due("end(1) behind root", b.x.end(1), StowTongue.REFUSED);
    }
}
