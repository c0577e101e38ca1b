import java.io.IOException;
import java.nio.charset.StandardCharsets;
import java.nio.file.Files;
import java.nio.file.Path;

/** The program in README.md compiles against the class and prints what README.md says. */
public final class ReadmeTest {
    public static void main(String[] args) throws IOException, InterruptedException {
        String readme = Files.readString(Path.of("README.md"));
        Check.due("the program in README.md", printed(block(readme, "java")), block(readme, "text"));
        Check.end();
    }

    /** What stands between the fences of the first block of that kind. */
    private static String block(String text, String kind) {
        String fence = "\n```" + kind + "\n";
        int from = text.indexOf(fence) + fence.length();
        return text.substring(from, text.indexOf("```\n", from));
    }

    private static String printed(String program) throws IOException, InterruptedException {
        Path directory = Files.createTempDirectory("readme");
        Path file = directory.resolve("Example.java");
        try {
            Files.writeString(file, program);
            String java = Path.of(System.getProperty("java.home"), "bin", "java").toString();
            Process process = new ProcessBuilder(java, "-cp", System.getProperty("java.class.path"), file.toString())
                    .redirectErrorStream(true).start();
            String out = new String(process.getInputStream().readAllBytes(), StandardCharsets.UTF_8);
            process.waitFor();
            return out.replace(System.lineSeparator(), "\n");
        } finally {
            Files.deleteIfExists(file);
            Files.delete(directory);
        }
    }
}
