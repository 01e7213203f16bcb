import java.io.IOException;
import java.nio.file.Files;
import java.nio.file.Path;
import java.util.regex.Matcher;
import java.util.regex.Pattern;

/** README.md's example: what it says that a call answers is what the call answers. */
public final class ReadmeTest {
    private static final Check CHECK = new Check();
    private static final Pattern CALL =
            Pattern.compile("beam\\.(\\w+)\\(([^)]*)\\);(?:\\s*// (-?\\d+|true|false):?.*)?.*");

    public static void main(String[] args) throws IOException, ReflectiveOperationException {
        BeamDrawer beam = new BeamDrawer();
        int answers = 0;
        for (String line : Files.readAllLines(Path.of("README.md"))) {
            Matcher call = CALL.matcher(line);
            if (!call.matches()) {
                continue;
            }
            String got = String.valueOf(answer(beam, call.group(1), call.group(2)));
            if (call.group(3) != null) {
                answers++;
                CHECK.due("README.md: " + line, got, call.group(3));
            }
        }
        CHECK.due("README.md's example tells answers", answers > 4, true);
        CHECK.end();
    }

    private static Object answer(BeamDrawer beam, String name, String written) throws ReflectiveOperationException {
        String[] parts = written.isBlank() ? new String[0] : written.split(", ");
        Class<?>[] types = new Class<?>[parts.length];
        Object[] values = new Object[parts.length];
        for (int i = 0; i < parts.length; i++) {
            types[i] = int.class;
            values[i] = Integer.valueOf(parts[i]);
        }
        return BeamDrawer.class.getMethod(name, types).invoke(beam, values);
    }
}
