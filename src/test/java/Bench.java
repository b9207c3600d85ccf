import java.nio.charset.StandardCharsets;

/**
 * What the tests share: texts come to the tape, and answers are held against those that are due. It
 * counts the calls of its object, since the document promises nothing behind the 512th.
 */
final class Bench {
    static final long NIL = 1L << 40, TEXT = NIL + 1, RECORD = NIL + 2, ROW = NIL + 3;
    static final int MOST_CALLS = 512;
    static final int MOST_FUEL = 2000;

    private static int wrong = 0;
    private static String sentence = "";

    private final StowTongue x = new StowTongue();
    private int calls = 0;

    /** The words of the document that the answers from here on are held against. */
    static void says(String words) {
        sentence = words;
    }

    static void due(String what, long got, long want) {
        if (got != want) {
            complain(what + " answered " + got + ", due is " + want);
        }
    }

    static void due(String what, String got, String want) {
        if (!got.equals(want)) {
            complain(what + " answered '" + got + "', due is '" + want + "'");
        }
    }

    private static void complain(String words) {
        wrong++;
        System.out.println("\"" + sentence + "\": " + words);
    }

    static void finish() {
        if (wrong != 0) {
            System.out.println(wrong + " answers are not as due");
            System.exit(1);
        }
    }

    private StowTongue used() {
        calls++;
        if (calls > MOST_CALLS) {
            throw new IllegalStateException("the test uses an object for more than 512 calls");
        }
        return x;
    }

    int calls() {
        return calls;
    }

    int feed(int a, int b, int c, int d, int e) {
        return used().feed(a, b, c, d, e);
    }

    int end(int n) {
        return used().end(n);
    }

    int run(int fuel) {
        return used().run(fuel);
    }

    long value() {
        return used().value();
    }

    int octet(int k) {
        return used().octet(k);
    }

    long root() {
        return used().root();
    }

    int sync() {
        return used().sync();
    }

    int crash(int n) {
        return used().crash(n);
    }

    int sweep() {
        return used().sweep();
    }

    int count(int what) {
        return used().count(what);
    }

    /** Puts a text behind what the tape has. */
    void type(String text) {
        byte[] bytes = text.getBytes(StandardCharsets.ISO_8859_1);
        int size = 0;
        for (int i = 0; i < bytes.length; i += 20) {
            size = feed(four(bytes, i), four(bytes, i + 4), four(bytes, i + 8),
                    four(bytes, i + 12), four(bytes, i + 16));
        }
        if (size > 0) {
            end(size - (20 - bytes.length % 20) % 20);
        }
    }

    private static int four(byte[] bytes, int from) {
        int sum = 0;
        for (int i = from; i < from + 4; i++) {
            sum = sum << 8 | (i < bytes.length ? bytes[i] & 255 : 0);
        }
        return sum;
    }

    int run(String text, int fuel) {
        type(text);
        return run(fuel);
    }

    /** Lets a program run with a given FUEL: what it answers, and what it takes of the FUEL. */
    void burns(String text, int fuel, int want, int taken) {
        due("run(" + fuel + ") of " + text, run(text, fuel), want);
        due("FUEL of " + text, count(7), taken);
    }

    void runs(String text, int want) {
        due("run of " + text, run(text, MOST_FUEL), want);
    }

    void gives(String text, long want) {
        runs(text, 0);
        due("value of " + text, value(), want);
    }

    void givesText(String text, String want) {
        gives(text, TEXT);
        outIs(want);
    }

    void prints(String text, String want) {
        runs(text, 0);
        outIs(want);
    }

    void counts(int what, int want) {
        due("count(" + what + ")", count(what), want);
    }

    void roots(String name, long want) {
        type(name);
        due("root of " + name, root(), want);
    }

    /** Runs a program without an ERROR: how many bytes it writes to the log. */
    void writes(String text, int want) {
        int before = count(4);
        runs(text, 0);
        due("bytes of " + text, count(4) - before, want);
    }

    void outIs(String want) {
        due("OUT", out(), want);
    }

    /** For an OUT that is too long to be read by 512 calls: its size, and its last bytes. */
    void outEnds(int size, String want) {
        due("octet(-1)", octet(-1), size);
        due("octet behind the last", octet(size), StowTongue.NONE);
        StringBuilder end = new StringBuilder();
        for (int i = size - want.length(); i < size; i++) {
            end.append((char) octet(i));
        }
        due("the end of OUT", end.toString(), want);
    }

    private String out() {
        StringBuilder all = new StringBuilder();
        int size = octet(-1);
        for (int i = 0; i < size; i++) {
            all.append((char) octet(i));
        }
        return all.toString();
    }

    static String times(int many, String text) {
        return text.repeat(many);
    }

    /** So many E, with "," between them. */
    static String list(int many, String e) {
        return many == 0 ? "" : times(many - 1, e + ",") + e;
    }

    /** Fields f1 to so many, each 1. */
    static String fields(int many) {
        StringBuilder all = new StringBuilder();
        for (int i = 1; i <= many; i++) {
            all.append(i == 1 ? "" : ",").append("f").append(i).append(":1");
        }
        return all.toString();
    }

    // Each of these is done on an object of its own.

    static void fault(String text, int place) {
        new Bench().runs(text, 100 + place);
    }

    static void error(String text, int code) {
        new Bench().runs(text, code);
    }

    /** The text is no FAULT, whatever comes of it. */
    static void noFault(String text) {
        int answer = new Bench().run(text, MOST_FUEL);
        due("a FAULT in " + text, answer >= 100 ? answer : 0, 0);
    }

    static void result(String text, long want) {
        new Bench().gives(text, want);
    }

    static void resultText(String text, String want) {
        new Bench().givesText(text, want);
    }

    static void output(String text, String want) {
        new Bench().prints(text, want);
    }
}
