import java.io.ByteArrayOutputStream;
import java.io.IOException;
import java.io.PrintStream;
import java.nio.charset.StandardCharsets;
import java.nio.file.Files;
import java.nio.file.Path;

/** README.md shows the example as it stands in Village, and what it prints. Run from the project's directory. */
public final class ReadmeTest extends Cases {
    private ReadmeTest() {
    }

    public static void main(String[] args) throws IOException {
        String readme = Files.readString(Path.of("README.md"));
        String example = Files.readString(Path.of("src/test/java/Village.java"));
        due("README.md shows the example", readme.contains(indented(example)), true);
        due("README.md shows what it prints", readme.contains("prints\n\n" + indented(printed())), true);
        everyCallIsNamed(readme);
        end();
    }

    private static String indented(String text) {
        StringBuilder all = new StringBuilder();
        for (String line : text.split("\n")) {
            all.append(line.isEmpty() ? "" : "    ").append(line).append('\n');
        }
        return all.toString();
    }

    private static String printed() {
        PrintStream before = System.out;
        ByteArrayOutputStream bytes = new ByteArrayOutputStream();
        System.setOut(new PrintStream(bytes, true, StandardCharsets.US_ASCII));
        try {
            Village.main(new String[0]);
        } finally {
            System.setOut(before);
        }
        return bytes.toString(StandardCharsets.US_ASCII).replace(System.lineSeparator(), "\n");
    }

    private static void everyCallIsNamed(String readme) {
        for (java.lang.reflect.Method method : QuipuKeepers.class.getDeclaredMethods()) {
            if (java.lang.reflect.Modifier.isPublic(method.getModifiers())) {
                String name = method.getName();
                boolean named = readme.contains("`" + name + "`") || readme.contains("`" + name + "(");
                due("README.md names " + name, named, true);
            }
        }
    }
}
