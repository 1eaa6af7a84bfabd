import java.io.IOException;
import java.nio.file.DirectoryStream;
import java.nio.file.Files;
import java.nio.file.Path;

/** README.md shows an example that runs as it says, and names the tests that are there. */
public final class ReadmeTest {
    private static final Due due = new Due();

    public static void main(String[] args) throws IOException {
        String readme = Files.readString(Path.of("README.md"));
        theExample();
        theExampleIsTheOneShown(readme);
        everyTestIsNamed(readme);
        everyNamedTestIsThere(readme);
        due.end();
    }

    private static void theExample() {
        SafePaths x = new SafePaths(4 + 32);        // outside links are made DEAD, folders that lack are made
        for (char c : "docs/a.txt".toCharArray()) {
            x.put(c);                               // the bytes of a name come one by one: the draft
        }
        int path = x.path();                        // the draft becomes a PATH: 0, the first one
        int entry = x.entry(1, path, 7, 100);       // a file with value 7 and size 100: entry 0
        int would = x.dry(entry);                   // what take() would say, without a change: 0, it is fine
        int node = x.take(entry);                   // docs comes as node 4, the file as node 5: 5
        int shut = x.finish();                      // the rights that folders were given are set: 0 are SHUT
        due.is("path", path, 0);
        due.is("entry", entry, 0);
        due.is("would", would, 0);
        due.is("node", node, 5);
        due.is("shut", shut, 0);
        due.holds("node 4 is docs", Due.nameOf(x, 4).equals("docs"));
        due.holds("node 5 is a.txt", Due.nameOf(x, 5).equals("a.txt"));
    }

    /** The lines that README.md shows stand in this file, one behind the other, so they are the ones that ran. */
    private static void theExampleIsTheOneShown(String readme) throws IOException {
        String source = Files.readString(Path.of("src/test/java/ReadmeTest.java"));
        String begin = "```java\n";
        int from = readme.indexOf(begin);
        int to = readme.indexOf("```", from + begin.length());
        due.holds("README.md shows an example", from >= 0 && to > from);
        String shown = from >= 0 && to > from ? readme.substring(from + begin.length(), to) : "none";
        due.holds("it is the one that runs here", source.contains(shown.indent(8)));
    }

    private static void everyTestIsNamed(String readme) throws IOException {
        try (DirectoryStream<Path> tests = Files.newDirectoryStream(Path.of("src/test/java"), "*Test.java")) {
            for (Path test : tests) {
                String name = test.getFileName().toString().replace(".java", "");
                due.holds("README.md names " + name, readme.contains("- `" + name + "`: "));
            }
        }
    }

    private static void everyNamedTestIsThere(String readme) {
        for (String line : readme.split("\n")) {
            if (line.matches("- `\\w+Test`: .*")) {
                String name = line.substring(3, line.indexOf('`', 3));
                due.holds(name + " is there", Files.exists(Path.of("src/test/java", name + ".java")));
            }
        }
    }
}
