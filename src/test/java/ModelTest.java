import java.nio.charset.StandardCharsets;
import java.util.Random;

/** Made-up runs of calls (always the same ones), answered by StowTongue as by the Model. */
final class ModelTest {
    private static final String[] NAMES = {"a", "b", "c", "d", "e", "i", "k", "m", "n", "p", "q", "s",
        "t", "u", "abcdefgh"};
    private static final String[] FUNS = {"f", "g", "h", "f1", "f2", "f3", "f4", "f5", "f6", "f7", "f8"};
    private static final String[] SCRAPS = {"{", "}", "(", ")", "[", "]", ",", ";", ":", ".", "=", "+",
        "-", "*", "/", "%", "<", "==", "!=", "<=", "!", "&&", "||", "fun", "let", "if", "else", "while",
        "return", "abort", "print", "nil", "size", "push", "pop", "a", "7", "\"x\"", "&", "abcdefghi",
        "2147483648", "\"", "@", "\200", "\0", " ", "\n"};

    /** In tame programs these names hold what they hold here, so that most of them end well. */
    private static final String GROUND = "a = [1, 2]; b = [a]; c = [\"x\", nil]; d = {p: 1, q: 2};"
            + " e = {p: 3, m: d}; s = \"abc\"; t = \"t\"; n = 5; m = 0; fun f(x) { return x + 1; }"
            + " fun g(x, y) { push(x, y); return size(x); } fun h(x) { x.q = x.p; x.p = nil; }";

    /** More than this no program and the looks behind it take, but for its feeds. */
    private static final int MOST_LOOKS = 130;

    private final Random dice;
    private final StringBuilder calls = new StringBuilder();
    private final StowTongue x = new StowTongue();
    private final Model model = new Model();
    private int made;
    private int known;

    private ModelTest(long seed) {
        dice = new Random(seed);
    }

    public static void main(String[] args) {
        int runs = args.length > 0 ? Integer.parseInt(args[0]) : 2500;
        int first = args.length > 1 ? Integer.parseInt(args[1]) : 0;
        Bench.says("the document");
        int[] answers = new int[12];
        for (int seed = first; seed < first + runs; seed++) {
            new ModelTest(seed).play(answers);
        }
        everyToken();
        // Else the programs would be of one sort only, and the test worth little.
        for (int code = 0; code <= 11; code++) {
            Bench.due("some runs answered " + code + " (11: a FAULT)", answers[code] > 0 ? 1 : 0, 1);
        }
        if (args.length > 0) {
            System.out.println(java.util.Arrays.toString(answers));
        }
        Bench.finish();
    }

    private void due(String call, long got, long want) {
        made++;
        if (made > Bench.MOST_CALLS) {
            throw new IllegalStateException("the test uses an object for more than 512 calls");
        }
        calls.append(call).append('\n');
        if (got != want) {
            System.out.println(calls);
            Bench.due(call, got, want);
            Bench.finish();
        }
    }

    /** Every token of SCRAPS behind every row of tokens with which a sound program begins. */
    private static void everyToken() {
        for (String program : GrammarTest.PROGRAMS) {
            StringBuilder before = new StringBuilder();
            for (String token : program.replace("# ", "").split(" ")) {
                for (String scrap : SCRAPS) {
                    ModelTest test = new ModelTest(0);
                    test.type(before + scrap);
                    test.due("run(50)", test.x.run(50), test.model.run(50));
                }
                before.append(token).append(' ');
            }
        }
    }

    private void play(int[] answers) {
        int programs = 5 + dice.nextInt(25);
        for (int i = 0; i < programs; i++) {
            String text = i == 0 ? GROUND : dice.nextInt(12) == 0 ? fillers()
                    : dice.nextInt(3) == 0 ? program() : tameProgram();
            if (dice.nextInt(8) == 0) {
                text = spoilt(text);
            }
            if (text.length() > 1500 || made + text.length() / 20 + MOST_LOOKS > Bench.MOST_CALLS) {
                continue;
            }
            type(text);
            int fuel = dice.nextInt(6) == 0 ? dice.nextInt(30) : dice.nextInt(40) == 0
                    ? dice.nextInt(4010) - 1000 : 2000;
            int want = model.run(fuel);
            due("run(" + fuel + ")", x.run(fuel), want);
            if (want >= 0) {
                answers[Math.min(want, 11)]++;
            }
            look();
            act();
        }
    }

    private void type(String text) {
        byte[] b = java.util.Arrays.copyOf(text.getBytes(StandardCharsets.ISO_8859_1),
                (text.length() + 19) / 20 * 20);
        java.nio.ByteBuffer all = java.nio.ByteBuffer.wrap(b);
        int size = model.end(0);
        due("end(0)", x.end(0), size);
        while (all.hasRemaining()) {
            int p = all.getInt();
            int q = all.getInt();
            int r = all.getInt();
            int s = all.getInt();
            int t = all.getInt();
            due("feed", x.feed(p, q, r, s, t), model.feed(p, q, r, s, t));
        }
        calls.append("the text ").append(text).append('\n');
        due("end", x.end(text.length()), model.end(text.length()));
    }

    private void look() {
        for (int what = 0; what < 8; what++) {
            due("count(" + what + ")", x.count(what), model.count(what));
        }
        lookAtOut();
        if (dice.nextBoolean()) {
            due("value()", x.value(), model.value());
            lookAtOut();
        }
        for (int i = dice.nextInt(4); i > 0; i--) {
            type(pick(NAMES));
            due("root()", x.root(), model.root());
        }
    }

    private void lookAtOut() {
        int size = model.octet(-1);
        due("octet(-1)", x.octet(-1), size);
        for (int i = 0; i < Math.min(size, 12); i++) {
            int k = size <= 12 ? i : i < 4 ? size - 2 + i : dice.nextInt(size);
            due("octet(" + k + ")", x.octet(k), model.octet(k));
        }
    }

    private void act() {
        switch (dice.nextInt(9)) {
            case 0:
                due("sync()", x.sync(), model.sync());
                break;
            case 1:
                int n = dice.nextInt(10) == 0 ? -1 : dice.nextInt(200);
                due("crash(" + n + ")", x.crash(n), model.crash(n));
                break;
            case 2:
            case 3:
                due("sweep()", x.sweep(), model.sweep());
                break;
            default:
                return;
        }
        look();
    }

    private String pick(String... of) {
        return of[dice.nextInt(of.length)];
    }

    /** Programs that come to the bounds. */
    private String fillers() {
        switch (dice.nextInt(8)) {
            case 0:
                return "let i = 0; while (i < " + dice.nextInt(110) + ") { " + name() + " = ["
                        + name() + "]; i = i + 1; }";
            case 1:
                return "while (1) { print " + value(0) + "; }";
            case 2:
                return "fun " + pick(FUNS) + "() {" + "a;".repeat(dice.nextInt(210)) + "}";
            case 3:
                return "fun f(n) { if (n) { return f(n - 1); } return " + value(1) + "; } return f("
                        + dice.nextInt(10) + ");";
            case 4:
                return "let i = 0; while (i < " + (15 + dice.nextInt(8)) + ") { push(" + name()
                        + ", i); i = i + 1; }";
            case 5:
                return "return [" + "1,".repeat(dice.nextInt(24)) + "1];";
            case 6: {
                StringBuilder s = new StringBuilder(name() + " = {z: 1");
                for (int i = dice.nextInt(10); i >= 0; i--) {
                    s.append(", ").append(name()).append(": ").append(value(0));
                }
                return s + "};";
            }
            default:
                return "return " + pick("-", "!", "(", "[").repeat(dice.nextInt(18)) + "1;";
        }
    }

    private String spoilt(String text) {
        int from = dice.nextInt(text.length() + 1);
        int to = Math.min(text.length(), from + dice.nextInt(3));
        return text.substring(0, from) + pick(SCRAPS) + text.substring(to);
    }

    private String program() {
        StringBuilder s = new StringBuilder();
        known = 3 + dice.nextInt(NAMES.length - 2);
        for (int i = dice.nextInt(8); i >= 0; i--) {
            if (dice.nextInt(7) == 0) {
                s.append("fun ").append(pick(FUNS)).append("(");
                String[] names = {"a", "b", "x", "y"};
                int many = dice.nextInt(4);
                for (int k = 0; k < many; k++) {
                    s.append(k == 0 ? "" : ", ").append(names[k]);
                }
                s.append(") ").append(block(1)).append(' ');
            } else {
                s.append(statement(0)).append(dice.nextBoolean() ? " " : "");
            }
        }
        return s.toString();
    }

    private String tameProgram() {
        StringBuilder s = new StringBuilder();
        for (int i = dice.nextInt(6); i >= 0; i--) {
            s.append(tame(0)).append(' ');
        }
        return s + (dice.nextInt(3) == 0 ? "return " + pick(number(), text(), "a", "d", "nil") + ";" : "");
    }

    private String tame(int deep) {
        switch (dice.nextInt(deep > 2 ? 12 : 16)) {
            case 0:
                return pick("n", "m") + " = " + number() + ";";
            case 1:
                return pick("s", "t") + " = " + text() + ";";
            case 2:
                return pick("d", "e") + "." + pick("p", "q", "u", "k") + " = "
                        + pick(number(), text(), "nil", "a", "d", "d.p", "e.q") + ";";
            case 3:
                return pick("a", "b", "c") + "[" + pick("0", "0", "1") + "] = "
                        + pick(number(), text(), "nil", "a", "e") + ";";
            case 4:
                return "push(" + pick("a", "b", "c") + ", " + pick(number(), "d", "[n]", "{p: m}") + ");";
            case 5:
                return "if (2 < size(a)) { pop(a); }";
            case 6:
                return pick("a", "b", "c") + " = [" + pick(number(), "a", "b, d") + ", " + text() + "];";
            case 7:
                return pick("d", "e") + " = {p: " + number() + ", q: " + pick("a", "nil", "d") + "};";
            case 8:
                return "print " + pick(number(), text(), "a", "d", "nil") + ";";
            case 9:
                return pick("k", "u", "i") + " = " + pick("nil", "nil", number(), "d", "b") + ";";
            case 10:
                return pick("h(d);", "h(e);", "g(a, n);", "m = f(n);", "n = g(c, c);");
            case 11:
                return "fun".repeat(deep == 0 ? 1 : 0) + (deep == 0 ? " f(x) { " + pick("return x + "
                        + number() + ";", "n = x; return m;", "let y = x * 2; return y;") + " }" : "n;");
            case 12:
                return "if (" + pick(number(), "d.p", "n < m", "s == t") + ") { " + tame(deep + 1) + " }";
            case 13:
                return "let w = 0; while (w < " + dice.nextInt(5) + ") { w = w + 1; " + tame(deep + 1)
                        + " }";
            case 14:
                return "{ let z = n; " + tame(deep + 1) + " n = z; }";
            default:
                return "if (n == " + dice.nextInt(3) + ") { } else { " + tame(deep + 1) + " }";
        }
    }

    private String number() {
        return pick("n", "m", "1", "2", "size(a)", "size(d)", "size(s)", "n + 1", "n * m - 3", "n % 3",
                "m / 7", "-n", "!m", "(n < m)", "(s <= t)", "(a == b)", "(n && 3)", "(nil || 4)",
                "f(" + dice.nextInt(3) + ")", "65537 * n * 65537", "2147483647 + m");
    }

    private String text() {
        return pick("s", "t", "\"\"", "\"abcdefghijklmnop\"", "\"q\" + s[0]", "\"hello\"[n % 5 * 0 + 4]",
                "\"1234567\" + \"89\"", "(s || t)", "\"~ \"");
    }

    private String block(int deep) {
        StringBuilder s = new StringBuilder("{ ");
        for (int i = dice.nextInt(4); i > 0; i--) {
            s.append(statement(deep + 1)).append(' ');
        }
        return s.append("}").toString();
    }

    private String name() {
        return NAMES[dice.nextInt(Math.max(known, 1))];
    }

    private String statement(int deep) {
        switch (dice.nextInt(deep > 3 ? 12 : 18)) {
            case 0:
                return "let " + name() + " = " + value(2) + ";";
            case 1:
                return dice.nextInt(4) == 0 ? "return " + value(2) + ";" : "print " + value(2) + ";";
            case 2:
                return dice.nextInt(12) == 0 ? "abort;" : value(2).replaceAll("^\\{", "1 == {") + ";";
            case 3:
                return name() + "." + name() + " = " + value(2) + ";";
            case 4:
                return name() + "[" + value(0) + "] = " + value(1) + ";";
            case 5:
                return "push(" + name() + ", " + value(2) + ");";
            case 6:
                return name() + " = nil;";
            case 7:
                return name() + " = {" + name() + ": " + value(1) + ", " + name() + ": " + value(1) + "};";
            case 8:
                return name() + " = [" + value(1) + ", " + value(1) + "];";
            case 9:
            case 10:
            case 11:
                return name() + " = " + value(2) + ";";
            case 12:
            case 13:
                return "if (" + value(1) + ") " + block(deep) + (dice.nextBoolean() ? " else "
                        + block(deep) : "");
            case 14:
                return "while (" + value(1) + ") " + block(deep);
            case 15:
                return "if (size(" + name() + ")) { " + statement(deep + 1) + " }";
            case 16:
                return block(deep);
            default:
                return "let i = 0; while (i < " + dice.nextInt(9) + ") { i = i + 1; "
                        + statement(deep + 1) + " }";
        }
    }

    private String value(int deep) {
        switch (dice.nextInt(deep <= 0 ? 6 : 18)) {
            case 0:
                return Integer.toString(dice.nextInt(4));
            case 1:
                return pick("2147483647", "0", "65537", "7", "13");
            case 2:
                return "\"" + "abcdefghijkl~ 12".substring(dice.nextInt(16)) + "\"";
            case 3:
                return pick("nil", "0", "1", "\"\"");
            case 4:
            case 5:
                return name();
            case 6:
            case 7:
                return value(deep - 1) + pick(" + ", " - ", " * ", " / ", " % ") + value(deep - 1);
            case 8:
                return "(" + value(deep - 1) + pick(" == ", " != ", " < ", " <= ") + value(deep - 1) + ")";
            case 9:
                return value(deep - 1) + pick(" && ", " || ") + value(deep - 1);
            case 10:
                return pick("-", "!") + value(deep - 1);
            case 11:
                return "[" + value(deep - 1) + ", " + value(deep - 1) + "]";
            case 12:
                return "{" + name() + ": " + value(deep - 1) + ", " + name() + ": " + value(0) + "}";
            case 13:
                return name() + "." + name();
            case 14:
                return name() + "[" + value(0) + "]";
            case 15:
                return pick("size(", "pop(") + value(deep - 1) + ")";
            case 16:
                return pick(FUNS) + "(" + pick("", value(0), value(0) + ", " + value(0)) + ")";
            default:
                return "push(" + name() + ", " + value(deep - 1) + ")";
        }
    }
}
