import java.io.IOException;
import java.lang.reflect.Method;
import java.nio.ByteBuffer;
import java.nio.charset.StandardCharsets;
import java.nio.file.Files;
import java.nio.file.Paths;
import java.util.Arrays;
import java.util.TreeSet;
import java.util.regex.Matcher;
import java.util.regex.Pattern;

/** The calls in README.md answer what it says they do, and each method is called there. */
final class ReadmeTest {
    private static final String MAKE = "StowTongue x = new StowTongue();";
    private static final Pattern TYPE = Pattern.compile("type\\(x, \"(.*)\"\\);");
    private static final Pattern CALL = Pattern.compile("x\\.(\\w+)\\((.*?)\\); // ([^:]+)(:.*)?");

    private StowTongue x = null;
    private final TreeSet<String> called = new TreeSet<>();

    public static void main(String[] args) throws ReflectiveOperationException, IOException {
        Bench.says("README.md");
        ReadmeTest test = new ReadmeTest();
        String[] blocks = Files.readString(Paths.get("README.md")).split("```");
        for (int i = 1; i < blocks.length; i += 2) {
            if (blocks[i].startsWith("java\n") && !blocks[i].startsWith("java\nstatic ")) {
                for (String line : blocks[i].substring(5).split("\n")) {
                    test.follow(line);
                }
            }
        }
        Bench.due("the methods used", test.called.toString(),
                "[count, crash, end, feed, octet, root, run, sweep, sync, value]");
        Bench.finish();
    }

    private void follow(String line) throws ReflectiveOperationException {
        Matcher type = TYPE.matcher(line);
        Matcher call = CALL.matcher(line);
        if (line.equals(MAKE)) {
            x = new StowTongue();
        } else if (type.matches()) {
            type(x, type.group(1).replace("\\\"", "\""));
        } else if (call.matches()) {
            called.add(call.group(1));
            Bench.due(line, answer(call.group(1), call.group(2)), meant(call.group(3).trim()));
        } else {
            Bench.due("a line that is no call: " + line, 1, 0);
        }
    }

    private long answer(String name, String arguments) throws ReflectiveOperationException {
        String[] numbers = arguments.isEmpty() ? new String[0] : arguments.split(", ");
        Class<?>[] types = new Class<?>[numbers.length];
        Object[] given = new Object[numbers.length];
        for (int i = 0; i < numbers.length; i++) {
            types[i] = int.class;
            given[i] = Long.decode(numbers[i]).intValue();
        }
        Method method = StowTongue.class.getMethod(name, types);
        return ((Number) method.invoke(x, given)).longValue();
    }

    private static long meant(String words) throws ReflectiveOperationException {
        if (words.matches("[A-Z]+")) {
            return StowTongue.class.getField(words).getInt(null);
        }
        if (words.startsWith("2^40")) {
            return Bench.NIL + (words.length() > 4 ? Long.parseLong(words.substring(7)) : 0);
        }
        return Long.parseLong(words);
    }

    /** As README.md shows it. */
    static void type(StowTongue x, String text) {
        byte[] bytes = text.getBytes(StandardCharsets.ISO_8859_1);
        ByteBuffer all = ByteBuffer.wrap(Arrays.copyOf(bytes, (bytes.length + 19) / 20 * 20));
        while (all.hasRemaining()) {
            x.feed(all.getInt(), all.getInt(), all.getInt(), all.getInt(), all.getInt());
        }
        x.end(bytes.length);
    }
}
