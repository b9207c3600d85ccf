/** Promise 1. */
final class NewObjectTest {
    public static void main(String[] args) {
        Bench b = new Bench();
        for (int what = 0; what <= 7; what++) {
            b.counts(what, 0);
        }
        Bench.due("value()", b.x.value(), Bench.NIL);
        Bench.due("octet(-1)", b.x.octet(-1), 0);
        Bench.due("octet(0)", b.x.octet(0), StowTongue.NONE);
        Bench.due("root()", b.x.root(), Bench.NIL);
        Bench.due("end(0)", b.x.end(0), 0);
        Bench.due("end(1)", b.x.end(1), StowTongue.REFUSED);
        Bench.due("sync()", b.x.sync(), 0);
        Bench.due("crash(9)", b.x.crash(9), 0);
        Bench.due("sweep()", b.x.sweep(), 0);
        b.counts(6, 0);
        b.runs("", 0);

        // Two objects share nothing.
        Bench other = new Bench();
        other.runs("a = [1]; fun f() {}", 0);
        b.roots("a", Bench.NIL);
        b.counts(0, 0);
        b.counts(2, 0);
        Bench.finish();
    }
}
