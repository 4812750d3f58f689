import java.io.IOException;
import java.lang.reflect.Method;
import java.nio.file.DirectoryStream;
import java.nio.file.Files;
import java.nio.file.Path;
import java.util.regex.Matcher;
import java.util.regex.Pattern;

/** What README.md tells: its example answers as it says, its table names every call, and every test is listed. */
public final class ReadmeTest {
    private static final Check CHECK = new Check("ReadmeTest");
    private static final Pattern LINE = Pattern.compile("desk\\.(\\w+)\\(([^)]*)\\);( *// (-?\\d+))?");

    public static void main(String[] args) throws Exception {
        String text = Files.readString(Path.of("README.md"));
        example(text);
        for (String name : RandomCalls.NAMES) CHECK.isTrue(name + " is not told of", text.contains("`" + name + "`"));
        constants(text);
        tests(text);
        CHECK.end();
    }

    private static void example(String text) throws Exception {
        AwardDesk desk = new AwardDesk();
        int lines = 0;
        for (Matcher m = LINE.matcher(text); m.find(); lines++) {
            CHECK.isTrue(m.group() + " tells no answer", m.group(4) != null);
            if (m.group(4) != null) CHECK.due(m.group(), call(desk, m.group(1), m.group(2)), Integer.parseInt(m.group(4)));
        }
        CHECK.isTrue("there is an example", lines > 20);
    }

    private static int call(AwardDesk desk, String name, String told) throws Exception {
        String[] parts = told.isEmpty() ? new String[0] : told.split(", ");
        Object[] arguments = new Object[parts.length];
        for (int i = 0; i < parts.length; i++) arguments[i] = Integer.parseInt(parts[i]);
        for (Method m : AwardDesk.class.getMethods()) {
            if (m.getName().equals(name)) return (Integer) m.invoke(desk, arguments);
        }
        throw new IllegalArgumentException("no call " + name);
    }

    private static void constants(String text) {
        int[] values = {AwardDesk.BAD, AwardDesk.NO, AwardDesk.FULL, AwardDesk.SPENT, AwardDesk.NOTHING, AwardDesk.INDEX,
            AwardDesk.SIZE};
        String[] names = {"BAD", "NO", "FULL", "SPENT", "NOTHING", "INDEX", "SIZE"};
        for (int i = 0; i < names.length; i++) {
            CHECK.isTrue(names[i], text.contains("| `" + names[i] + "` | " + values[i] + " |"));
        }
    }

    private static void tests(String text) throws IOException {
        try (DirectoryStream<Path> files = Files.newDirectoryStream(Path.of("src/test/java"), "*Test.java")) {
            for (Path file : files) {
                String name = file.getFileName().toString().replace(".java", "");
                CHECK.isTrue(name + " is not listed", text.contains("`" + name + "`"));
            }
        }
    }
}
