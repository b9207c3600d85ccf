import java.nio.charset.StandardCharsets;

/** What the tests share: texts come to the tape, and answers are held against those that are due. */
final class Bench {
    static final long NIL = 1L << 40, TEXT = NIL + 1, RECORD = NIL + 2, ROW = NIL + 3;

    private static int wrong = 0;

    final StowTongue x = new StowTongue();

    static void due(String what, long got, long want) {
        if (got != want) {
            wrong++;
            System.out.println(what + " answered " + got + ", due is " + want);
        }
    }

    static void due(String what, String got, String want) {
        if (!got.equals(want)) {
            wrong++;
            System.out.println(what + " answered '" + got + "', due is '" + want + "'");
        }
    }

    static void finish() {
        if (wrong != 0) {
            System.out.println(wrong + " answers are not as due");
            System.exit(1);
        }
    }

    /** Puts a text behind what the tape has. */
    void type(String text) {
        byte[] bytes = text.getBytes(StandardCharsets.ISO_8859_1);
        int size = 0;
        for (int i = 0; i < bytes.length; i += 20) {
            size = x.feed(four(bytes, i), four(bytes, i + 4), four(bytes, i + 8),
                    four(bytes, i + 12), four(bytes, i + 16));
        }
        if (size > 0) {
            x.end(size - (20 - bytes.length % 20) % 20);
        }
    }

    private static int four(byte[] bytes, int from) {
        int sum = 0;
        for (int i = from; i < from + 4; i++) {
            sum = sum << 8 | (i < bytes.length ? bytes[i] & 255 : 0);
        }
        return sum;
    }

    int run(String text, int fuel) {
        type(text);
        return x.run(fuel);
    }

    void runs(String text, int want) {
        due("run of " + text, run(text, 2000), want);
    }

    void gives(String text, long want) {
        runs(text, 0);
        due("value of " + text, x.value(), want);
    }

    void givesText(String text, String want) {
        gives(text, TEXT);
        due("text of " + text, out(), want);
    }

    void prints(String text, String want) {
        runs(text, 0);
        due("out of " + text, out(), want);
    }

    void counts(int what, int want) {
        due("count(" + what + ")", x.count(what), want);
    }

    void roots(String name, long want) {
        type(name);
        due("root of " + name, x.root(), want);
    }

    String out() {
        StringBuilder all = new StringBuilder();
        for (int i = 0; i < x.octet(-1); i++) {
            all.append((char) x.octet(i));
        }
        return all.toString();
    }

    static String times(int many, String text) {
        return text.repeat(many);
    }

    /** On an object of its own each. */
    static void fault(String text, int place) {
        new Bench().runs(text, 100 + place);
    }

    static void error(String text, int code) {
        new Bench().runs(text, code);
    }

    static void result(String text, long want) {
        new Bench().gives(text, want);
    }

    static void resultText(String text, String want) {
        new Bench().givesText(text, want);
    }
}
