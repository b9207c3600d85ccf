import java.nio.charset.StandardCharsets;
import java.util.ArrayList;
import java.util.Arrays;
import java.util.HashMap;
import java.util.HashSet;
import java.util.IdentityHashMap;
import java.util.LinkedHashMap;
import java.util.List;
import java.util.Map;
import java.util.Objects;
import java.util.Set;
import java.util.TreeMap;

/**
 * The document once more, written another way: the text is cut into tokens first, read into a tree,
 * and the tree is walked; stores are copied object by object. It is held against StowTongue.
 */
final class Model {
    private static final Set<String> WORDS = Set.of("fun", "let", "if", "else", "while", "return",
            "abort", "print", "nil", "size", "push", "pop");
    private static final List<String> SIGNS = List.of("==", "!=", "<=", "&&", "||", "{", "}", "(", ")",
            "[", "]", ",", ";", ":", ".", "=", "+", "-", "*", "/", "%", "<", "!");

    private static final class Fault extends RuntimeException {
        private static final long serialVersionUID = 1;
        final int place;

        Fault(int place) {
            super(null, null, false, false);
            this.place = place;
        }
    }

    private static final class Stop extends RuntimeException {
        private static final long serialVersionUID = 1;
        final int code;

        Stop(int code) {
            super(null, null, false, false);
            this.code = code;
        }
    }

    private static final class Back extends RuntimeException {
        private static final long serialVersionUID = 1;
        final transient Object what;

        Back(Object what) {
            super(null, null, false, false);
            this.what = what;
        }
    }

    private record Token(char sort, String text, int place) { }

    private static final class Thing {
        final int id;
        final boolean row;
        final LinkedHashMap<String, Object> fields = new LinkedHashMap<>();
        final ArrayList<Object> items = new ArrayList<>();

        Thing(int id, boolean row) {
            this.id = id;
            this.row = row;
        }
    }

    private record Fun(String name, List<String> names, Act body, int tokens) { }

    private static final class World {
        final TreeMap<String, Object> roots = new TreeMap<>();
        final LinkedHashMap<Integer, Thing> things = new LinkedHashMap<>();
        final TreeMap<String, Fun> funs = new TreeMap<>();

        World copy() {
            World w = new World();
            w.funs.putAll(funs);
            IdentityHashMap<Thing, Thing> twins = new IdentityHashMap<>();
            for (Thing t : things.values()) {
                Thing twin = new Thing(t.id, t.row);
                twins.put(t, twin);
                w.things.put(t.id, twin);
            }
            for (Thing t : things.values()) {
                Thing twin = twins.get(t);
                t.fields.forEach((k, v) -> twin.fields.put(k, v instanceof Thing ? twins.get(v) : v));
                t.items.forEach(v -> twin.items.add(v instanceof Thing ? twins.get(v) : v));
            }
            roots.forEach((k, v) -> w.roots.put(k, v instanceof Thing ? twins.get(v) : v));
            return w;
        }
    }

    private record Entry(int bytes, World behind) { }

    private interface Find {
        Object in(Map<String, Object> locals);
    }

    private interface Act {
        void in(Map<String, Object> locals);
    }

    private byte[] tape = new byte[0];
    private byte[] out = new byte[0];
    private World safe = new World();
    private int safeBytes;
    private final ArrayList<Entry> log = new ArrayList<>();
    private Object value;
    private char valueSort = 'n';
    private int latestFuel;
    private int nextId;

    // The run that is being done.
    private World world;
    private int fuel;
    private int taken;
    private int depth;

    private World latest() {
        return log.isEmpty() ? safe : log.get(log.size() - 1).behind;
    }

    int feed(int a, int b, int c, int d, int e) {
        if (tape.length + 20 > 1500) {
            return -3;
        }
        java.nio.ByteBuffer more = java.nio.ByteBuffer.allocate(tape.length + 20);
        tape = more.put(tape).putInt(a).putInt(b).putInt(c).putInt(d).putInt(e).array();
        return tape.length;
    }

    int end(int n) {
        if (n < 0 || n > tape.length) {
            return -1;
        }
        tape = Arrays.copyOf(tape, n);
        return n;
    }

    long value() {
        if (valueSort == 't') {
            out = ((String) value).getBytes(StandardCharsets.ISO_8859_1);
        }
        return valueSort == 'i' ? (Integer) value : (1L << 40) + "ntrw".indexOf(valueSort);
    }

    private static char sort(Object v) {
        return v == null ? 'n' : v instanceof Integer ? 'i' : v instanceof String ? 't'
                : ((Thing) v).row ? 'w' : 'r';
    }

    int octet(int k) {
        return k == -1 ? out.length : k >= 0 && k < out.length ? out[k] : -2;
    }

    long root() {
        Object v = latest().roots.get(new String(tape, StandardCharsets.ISO_8859_1));
        tape = new byte[0];
        long more = v instanceof String s ? 8 * s.length() : 0;
        return v instanceof Integer i ? i : (1L << 40) + "ntrw".indexOf(sort(v)) + more;
    }

    int sync() {
        return keep(log.size());
    }

    private int keep(int many) {
        for (int i = 0; i < many; i++) {
            Entry first = log.remove(0);
            safe = first.behind;
            safeBytes += first.bytes;
        }
        return many;
    }

    int crash(int n) {
        if (n < 0) {
            return -1;
        }
        long sum = 0;
        int left = 0;
        for (Entry e : log) {
            sum += e.bytes;
            if (sum <= n) {
                left++;
            }
        }
        keep(left);
        log.clear();
        return left;
    }

    int sweep() {
        World w = latest().copy();
        Set<Integer> seen = new HashSet<>();
        w.roots.values().forEach(v -> mark(v, seen));
        int gone = w.things.size() - seen.size();
        if (gone > 0) {
            w.things.keySet().retainAll(seen);
            append(new Entry(8, w));
        }
        return gone;
    }

    private void mark(Object v, Set<Integer> seen) {
        if (v instanceof Thing t && seen.add(t.id)) {
            t.fields.values().forEach(u -> mark(u, seen));
            t.items.forEach(u -> mark(u, seen));
        }
    }

    private void append(Entry e) {
        log.add(e);
        if (log.size() > 8) {
            keep(1);
        }
    }

    int count(int what) {
        World w = latest();
        int waits = log.stream().mapToInt(Entry::bytes).sum();
        return switch (what) {
            case 0 -> w.things.size();
            case 1 -> w.roots.size();
            case 2 -> w.funs.size();
            case 3 -> tokens(w);
            case 4 -> safeBytes + waits;
            case 5 -> waits;
            case 6 -> log.size();
            case 7 -> latestFuel;
            default -> -1;
        };
    }

    private static int tokens(World w) {
        return w.funs.values().stream().mapToInt(Fun::tokens).sum();
    }

    int run(int newFuel) {
        if (newFuel < 0 || newFuel > 2000) {
            return -1;
        }
        String text = new String(tape, StandardCharsets.ISO_8859_1);
        tape = new byte[0];
        Reader reader = new Reader(text);
        try {
            reader.program();
        } catch (Fault f) {
            return 100 + f.place;
        }
        out = new byte[0];
        world = latest().copy();
        fuel = newFuel;
        taken = 0;
        depth = 0;
        value = null;
        valueSort = 'n';
        int code = 0;
        try {
            for (Fun f : reader.told) {
                world.funs.put(f.name, f);
                if (world.funs.size() > 10 || tokens(world) > 400) {
                    throw new Stop(8);
                }
            }
            Map<String, Object> locals = new HashMap<>();
            reader.statements.forEach(s -> s.in(locals));
        } catch (Stop s) {
            code = s.code;
        } catch (Back b) {
            value = b.what;
            valueSort = sort(b.what);
        }
        latestFuel = taken;
        if (code == 0) {
            int told = reader.told.stream().mapToInt(Fun::tokens).sum();
            append(new Entry(8 + 3 * told + changed(latest(), world), world));
        }
        return code;
    }

    private static Object plain(Object v) {
        return v instanceof Thing t ? List.of(t.id) : v;
    }

    private static List<Object> inside(Thing t) {
        List<Object> all = new ArrayList<>();
        t.fields.forEach((k, v) -> {
            all.add(k);
            all.add(plain(v));
        });
        t.items.forEach(v -> all.add(plain(v)));
        return all;
    }

    private static int changed(World before, World after) {
        int bytes = 0;
        for (Thing t : after.things.values()) {
            Thing old = before.things.get(t.id);
            bytes += old == null || !inside(old).equals(inside(t)) ? 16 : 0;
        }
        Set<String> names = new HashSet<>(before.roots.keySet());
        names.addAll(after.roots.keySet());
        for (String n : names) {
            bytes += Objects.equals(plain(before.roots.get(n)), plain(after.roots.get(n))) ? 0 : 6;
        }
        return bytes;
    }

    private void burn() {
        if (taken == fuel) {
            throw new Stop(1);
        }
        taken++;
    }

    private void print(Object v) {
        String s = (v == null ? "n" : v instanceof Thing t ? t.row ? "w" : "r" : v.toString()) + "\n";
        for (char c : s.toCharArray()) {
            if (out.length == 600) {
                throw new Stop(9);
            }
            out = Arrays.copyOf(out, out.length + 1);
            out[out.length - 1] = (byte) c;
        }
    }

    private Thing make(boolean row) {
        if (world.things.size() == 100) {
            throw new Stop(8);
        }
        Thing t = new Thing(nextId++, row);
        world.things.put(t.id, t);
        return t;
    }

    private static void check(boolean holds, int code) {
        if (!holds) {
            throw new Stop(code);
        }
    }

    private static boolean isTrue(Object v) {
        return v != null && !v.equals(0);
    }

    private static Thing record(Object v) {
        check(v instanceof Thing t && !t.row, 2);
        return (Thing) v;
    }

    private static Thing row(Object v) {
        check(v instanceof Thing t && t.row, 2);
        return (Thing) v;
    }

    private static void setField(Thing t, String name, Object v) {
        if (v == null) {
            t.fields.remove(name);
        } else {
            check(t.fields.containsKey(name) || t.fields.size() < 8, 4);
            t.fields.put(name, v);
        }
    }

    private static int index(Object i, int size) {
        check(i instanceof Integer, 2);
        check((Integer) i >= 0 && (Integer) i < size, 3);
        return (Integer) i;
    }

    private static Object item(Object of, Object i) {
        if (of instanceof String s) {
            int at = index(i, s.length());
            return s.substring(at, at + 1);
        }
        return row(of).items.get(index(i, row(of).items.size()));
    }

    private static Object two(String op, Object a, Object b) {
        boolean ints = a instanceof Integer && b instanceof Integer;
        boolean texts = a instanceof String && b instanceof String;
        if (op.equals("==") || op.equals("!=")) {
            boolean same = ints || texts ? a.equals(b) : a == b;
            return same == op.equals("==") ? 1 : 0;
        }
        if (texts && op.startsWith("<")) {
            int order = ((String) a).compareTo((String) b);
            return order < 0 || order == 0 && op.equals("<=") ? 1 : 0;
        }
        if (texts && op.equals("+")) {
            check(((String) a + b).length() <= 16, 4);
            return (String) a + b;
        }
        check(ints, 2);
        long x = (Integer) a;
        long y = (Integer) b;
        check(y != 0 || !op.equals("/") && !op.equals("%"), 5);
        return switch (op) {
            case "<" -> x < y ? 1 : 0;
            case "<=" -> x <= y ? 1 : 0;
            case "+" -> (int) (x + y);
            case "-" -> (int) (x - y);
            case "*" -> (int) (x * y);
            case "/" -> (int) (x / y);
            default -> (int) (x % y);
        };
    }

    private Object call(String name, List<Object> given) {
        burn();
        Fun f = world.funs.get(name);
        check(f != null && f.names.size() == given.size(), 6);
        check(depth < 8, 7);
        Map<String, Object> locals = new HashMap<>();
        for (int i = 0; i < given.size(); i++) {
            locals.put(f.names.get(i), given.get(i));
        }
        depth++;
        Object result = null;
        try {
            f.body.in(locals);
        } catch (Back b) {
            result = b.what;
        }
        depth--;
        return result;
    }

    /** Reads all tokens, then the tree. */
    private final class Reader {
        final List<Token> tokens = new ArrayList<>();
        final List<Fun> told = new ArrayList<>();
        final List<Act> statements = new ArrayList<>();
        private int at;
        private Set<String> locals = new HashSet<>();

        Reader(String text) {
            int i = 0;
            while (i < text.length()) {
                char c = text.charAt(i);
                if (c == ' ' || c == '\n') {
                    i++;
                    continue;
                }
                Token t = token(text, i);
                tokens.add(t);
                if (t.sort == 'x') {
                    return;
                }
                i += t.text.length();
            }
            tokens.add(new Token('e', "", text.length()));
        }

        private Token token(String text, int i) {
            java.util.regex.Matcher m = java.util.regex.Pattern.compile(
                    "([a-z][a-z0-9]*)|([0-9]+)|(\"[ !#-~]*\")").matcher(text).region(i, text.length());
            if (m.lookingAt()) {
                String s = m.group();
                if (m.group(1) != null) {
                    return new Token(s.length() > 8 ? 'x' : WORDS.contains(s) ? 's' : 'n', s, i);
                }
                if (m.group(2) != null) {
                    boolean fits = new java.math.BigInteger(s).bitLength() <= 31;
                    return new Token(fits ? 'i' : 'x', s, i);
                }
                return new Token(s.length() > 18 ? 'x' : 't', s, i);
            }
            for (String s : SIGNS) {
                if (text.startsWith(s, i)) {
                    return new Token('s', s, i);
                }
            }
            return new Token('x', "", i);
        }

        private Token now() {
            return tokens.get(at);
        }

        private Fault fault() {
            return new Fault(now().place);
        }

        private boolean is(String sign) {
            return now().sort == 's' && now().text.equals(sign);
        }

        private boolean accept(String sign) {
            if (is(sign)) {
                at++;
                return true;
            }
            return false;
        }

        private void need(String sign) {
            if (!accept(sign)) {
                throw fault();
            }
        }

        private String name() {
            if (now().sort != 'n') {
                throw fault();
            }
            return tokens.get(at++).text;
        }

        private int deeper(int deep) {
            if (deep == 16) {
                throw fault();
            }
            return deep + 1;
        }

        void program() {
            while (now().sort != 'e') {
                if (is("fun")) {
                    function();
                } else {
                    statements.add(statement(0));
                }
            }
        }

        private void function() {
            Set<String> outer = locals;
            locals = new HashSet<>();
            need("fun");
            String name = name();
            List<String> names = new ArrayList<>();
            need("(");
            if (!is(")")) {
                do {
                    if (names.size() == 4 || names.contains(now().text)) {
                        throw fault();
                    }
                    names.add(name());
                } while (accept(","));
            }
            need(")");
            locals.addAll(names);
            int from = at;
            Act body = block(0);
            told.add(new Fun(name, names, body, at - from));
            locals = outer;
        }

        private Act block(int deep) {
            if (!is("{")) {
                throw fault();
            }
            int inner = deeper(deep);
            need("{");
            List<Act> all = new ArrayList<>();
            while (!is("}")) {
                all.add(statement(inner));
            }
            need("}");
            return l -> all.forEach(s -> s.in(l));
        }

        private Act statement(int deep) {
            if (is("{")) {
                return block(deep);
            }
            Act act = costly(deep);
            return l -> {
                burn();
                act.in(l);
            };
        }

        private Act costly(int deep) {
            if (accept("let")) {
                String n = name();
                locals.add(n);
                need("=");
                Find e = find(deep);
                need(";");
                return l -> l.put(n, e.in(l));
            }
            if (accept("if")) {
                Find e = bracket(deep);
                Act yes = block(deep);
                Act no = accept("else") ? block(deep) : l -> { };
                return l -> (isTrue(e.in(l)) ? yes : no).in(l);
            }
            if (accept("while")) {
                Find e = bracket(deep);
                Act body = block(deep);
                return l -> {
                    while (isTrue(e.in(l))) {
                        burn();
                        body.in(l);
                    }
                };
            }
            if (accept("return")) {
                Find e = is(";") ? l -> null : find(deep);
                need(";");
                return l -> {
                    throw new Back(e.in(l));
                };
            }
            if (accept("abort")) {
                need(";");
                return l -> {
                    throw new Stop(10);
                };
            }
            if (accept("print")) {
                Find e = find(deep);
                need(";");
                return l -> print(e.in(l));
            }
            return plain(deep);
        }

        private Act plain(int deep) {
            int from = at;
            Find e = find(deep);
            if (!is("=")) {
                need(";");
                return l -> e.in(l);
            }
            // Read it again as a place: an ATOM alone, cut before its last part.
            int equal = at;
            at = from;
            if (is("-") || is("!")) {
                at = equal;
                throw fault();
            }
            Act act = place(deep, equal);
            need(";");
            return act;
        }

        private Act place(int deep, int equal) {
            if (now().sort == 'n' && at + 1 == equal) {
                String n = name();
                boolean local = locals.contains(n);
                need("=");
                Find e = find(deep);
                return l -> {
                    Object v = e.in(l);
                    if (local) {
                        l.put(n, v);
                    } else if (v == null) {
                        world.roots.remove(n);
                    } else {
                        check(world.roots.containsKey(n) || world.roots.size() < 12, 8);
                        world.roots.put(n, v);
                    }
                };
            }
            Find base = atom(deep);
            while (is(".") || is("[")) {
                Find before = base;
                if (accept(".")) {
                    String n = name();
                    if (at == equal) {
                        need("=");
                        Find e = find(deep);
                        return l -> {
                            Object b = before.in(l);
                            Object v = e.in(l);
                            setField(record(b), n, v);
                        };
                    }
                    base = l -> record(before.in(l)).fields.get(n);
                } else {
                    Find i = square(deep);
                    if (at == equal) {
                        need("=");
                        Find e = find(deep);
                        return l -> {
                            Object b = before.in(l);
                            Object k = i.in(l);
                            Object v = e.in(l);
                            row(b).items.set(index(k, row(b).items.size()), v);
                        };
                    }
                    base = l -> item(before.in(l), i.in(l));
                }
            }
            at = equal;
            throw fault();
        }

        private Find square(int deep) {
            int inner = deeper(deep);
            need("[");
            Find i = find(inner);
            need("]");
            return i;
        }

        private Find bracket(int deep) {
            if (!is("(")) {
                throw fault();
            }
            int inner = deeper(deep);
            need("(");
            Find e = find(inner);
            need(")");
            return e;
        }

        private Find find(int deep) {
            Find left = both(deep);
            while (accept("||")) {
                Find a = left;
                Find b = both(deep);
                left = l -> {
                    Object v = a.in(l);
                    return isTrue(v) ? v : b.in(l);
                };
            }
            return left;
        }

        private Find both(int deep) {
            Find left = compared(deep);
            while (accept("&&")) {
                Find a = left;
                Find b = compared(deep);
                left = l -> {
                    Object v = a.in(l);
                    return isTrue(v) ? b.in(l) : v;
                };
            }
            return left;
        }

        private Find compared(int deep) {
            Find a = sum(deep);
            if (is("==") || is("!=") || is("<") || is("<=")) {
                String op = tokens.get(at++).text;
                Find b = sum(deep);
                return l -> two(op, a.in(l), b.in(l));
            }
            return a;
        }

        private Find sum(int deep) {
            Find left = product(deep);
            while (is("+") || is("-")) {
                String op = tokens.get(at++).text;
                Find a = left;
                Find b = product(deep);
                left = l -> two(op, a.in(l), b.in(l));
            }
            return left;
        }

        private Find product(int deep) {
            Find left = signed(deep);
            while (is("*") || is("/") || is("%")) {
                String op = tokens.get(at++).text;
                Find a = left;
                Find b = signed(deep);
                left = l -> two(op, a.in(l), b.in(l));
            }
            return left;
        }

        private Find signed(int deep) {
            if (is("-") || is("!")) {
                int inner = deeper(deep);
                boolean not = is("!");
                at++;
                Find e = signed(inner);
                return not ? l -> isTrue(e.in(l)) ? 0 : 1 : l -> two("-", 0, e.in(l));
            }
            Find base = atom(deep);
            while (is(".") || is("[")) {
                Find before = base;
                if (accept(".")) {
                    String n = name();
                    base = l -> record(before.in(l)).fields.get(n);
                } else {
                    Find i = square(deep);
                    base = l -> item(before.in(l), i.in(l));
                }
            }
            return base;
        }

        private Find atom(int deep) {
            Token t = now();
            switch (t.sort) {
                case 'i':
                    at++;
                    return l -> Integer.valueOf(t.text);
                case 't':
                    at++;
                    return l -> t.text.substring(1, t.text.length() - 1);
                case 'n':
                    return named(deep);
                case 's':
                    return signAtom(deep, t.text);
                default:
                    throw fault();
            }
        }

        private Find named(int deep) {
            String n = name();
            if (is("(")) {
                List<Find> all = list("(", ")", deep);
                return l -> call(n, found(all, l));
            }
            return locals.contains(n) ? l -> l.get(n) : l -> world.roots.get(n);
        }

        private List<Object> found(List<Find> all, Map<String, Object> l) {
            List<Object> objects = new ArrayList<>();
            all.forEach(e -> objects.add(e.in(l)));
            return objects;
        }

        private List<Find> list(String open, String close, int deep) {
            int inner = deeper(deep);
            need(open);
            List<Find> all = new ArrayList<>();
            if (!is(close)) {
                do {
                    all.add(find(inner));
                } while (accept(","));
            }
            need(close);
            return all;
        }

        private Find signAtom(int deep, String sign) {
            switch (sign) {
                case "nil":
                    at++;
                    return l -> null;
                case "(":
                    return bracket(deep);
                case "[": {
                    List<Find> all = list("[", "]", deep);
                    return l -> {
                        List<Object> objects = found(all, l);
                        Thing t = make(true);
                        check(objects.size() <= 20, 4);
                        t.items.addAll(objects);
                        return t;
                    };
                }
                case "{":
                    return recordAtom(deep);
                case "size": {
                    at++;
                    Find e = bracket(deep);
                    return l -> {
                        Object v = e.in(l);
                        check(v instanceof Thing || v instanceof String, 2);
                        return v instanceof String s ? s.length()
                                : ((Thing) v).items.size() + ((Thing) v).fields.size();
                    };
                }
                case "pop": {
                    at++;
                    Find e = bracket(deep);
                    return l -> {
                        Thing t = row(e.in(l));
                        check(!t.items.isEmpty(), 3);
                        return t.items.remove(t.items.size() - 1);
                    };
                }
                case "push":
                    return pushAtom(deep);
                default:
                    throw fault();
            }
        }

        private Find pushAtom(int deep) {
            at++;
            if (!is("(")) {
                throw fault();
            }
            int inner = deeper(deep);
            need("(");
            Find a = find(inner);
            need(",");
            Find b = find(inner);
            need(")");
            return l -> {
                Object base = a.in(l);
                Object v = b.in(l);
                Thing t = row(base);
                check(t.items.size() < 20, 4);
                t.items.add(v);
                return t;
            };
        }

        private Find recordAtom(int deep) {
            int inner = deeper(deep);
            need("{");
            List<String> names = new ArrayList<>();
            List<Find> all = new ArrayList<>();
            if (!is("}")) {
                do {
                    names.add(name());
                    need(":");
                    all.add(find(inner));
                } while (accept(","));
            }
            need("}");
            return l -> {
                List<Object> objects = found(all, l);
                Thing t = make(false);
                for (int i = 0; i < names.size(); i++) {
                    setField(t, names.get(i), objects.get(i));
                }
                return t;
            };
        }
    }
}
